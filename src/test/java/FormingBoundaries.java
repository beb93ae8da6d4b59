/** What the document says of forming an area anew. */
final class FormingBoundaries {
    // Node 0 alone holds the first; all of the ring hold the second (of node 1) and the third (of node 2).
    private static final String FIRST_AT_NODE_0_ALONE = """
            send 0 agreed = 1; send 1 agreed = 2; send 2 agreed = 3
            deafen 1 1 = true; deafen 2 1 = true; deafen 3 1 = true; deafen 4 1 = true
            visits 0 1 2 = 1 1 1
            each reach = 3 0 0 0 0
            """;

    private final Sentences sentences;

    FormingBoundaries(Sentences sentences) {
        this.sentences = sentences;
    }

    void tell() {
        sentences.section("Terms");
        newRing();
        companions();
        leftOver();
        lines();
        goingOn();
        gaps();
        inTheNewRing();
        whatStays();
        theRingThatWasLeft();
    }

    private void newRing() {
        String words = "TO FORM AN AREA ANEW. The nodes that are up in it are the members of a new ring,";
        sentences.run(words, """
                form 3; each members = 31 31 31 31 31; each ring = 2 2 2 2 2
                """);
        sentences.run(words, """
                crash 1 = true; place 2 1 = true
                form 4; each members = 25 DOWN 31 25 25; each ring = 2 DOWN 1 2 2
                """);
        sentences.run(words, """
                place 2 1 = true; form 2; members 2 = 4                 # alone
                place 2 0 = true; form 2; each members = 31 31 31 31 31 # from two rings
                """);
        sentences.run("whose number is one more than the greatest that there was;", """
                crash 4 = true; restart 4 = true; ring 4 = 2
                crash 4 = true                      # nobody is in the greatest any more
                form 0; ring 0 = 3
                restart 4 = true; ring 4 = 4
                form 0; each ring = 5 5 5 5 5
                """);
        sentences.run("whose number is one more than the greatest that there was;", """
                place 4 1 = true
                form 4; form 4; each ring = 1 1 1 1 3
                form 0; each ring = 4 4 4 4 3       # not one more than its own
                form 4; each ring = 4 4 4 4 5
                """);
        sentences.run("its token is at the least of them.", """
                visits 0 1 2 = 0 0 0
                form 3; each token = 0 0 0 0 0
                crash 0 = true; place 1 2 = true
                form 4; each token = DOWN NONE 2 2 2
                form 1; token 1 = 1
                """);
    }

    private void companions() {
        String words = "Before they pass to it, the COMPANIONS, those of them that are in one and the same old ring, do "
                + "the following, for each such old ring:";
        sentences.run(words, """
                place 3 1 = true; place 4 1 = true; form 3
                send 3 safe = 1; visit 3 = 1
                send 0 safe = 2; visit 0 = 1
                place 3 0 = true; place 4 0 = true; form 4
                whole log 0 = 5; whole log 1 = 5; whole log 2 = 5
                whole log 3 = 3; whole log 4 = 3
                """);
        sentences.run(words, """
                send 0 safe = 1; visit 0 = 1
                place 3 1 = true; place 4 2 = true
                form 3
                whole log 3 = 3                     # a companion all alone
                whole log 0 = empty; whole log 4 = empty        # of the same old ring, but not in the area
                form 4; whole log 4 = 3
                form 2; whole log 0 = 3; whole log 1 = 3; whole log 2 = 3
                """);
        sentences.run(words, """
                crash 0 = true; crash 1 = true; crash 2 = true; crash 3 = true; crash 4 = true
                restart 0 = true; restart 1 = true; restart 2 = true; restart 3 = true; restart 4 = true
                each ring = 2 3 4 5 6
                form 2; each ring = 7 7 7 7 7       # five old rings
                each delivered = 0 0 0 0 0
                """);
    }

    private void leftOver() {
        String words = "all companions hold then every message of the old ring that one of them holds;";
        sentences.run(words, """
                deafen 1 1 = true; deafen 2 2 = true; deafen 3 9 = true
                send 0 agreed = 1; send 0 agreed = 2; visit 0 = 2
                each delivered = 2 0 0 0 2
                form 4
                whole log 1 = 2 4; whole log 2 = 2 4; whole log 3 = 2 4; whole log 4 = 2 4
                """);
        sentences.run(words, """
                deafen 1 1 = true; deafen 2 1 = true; deafen 3 1 = true; deafen 4 1 = true
                send 0 agreed = 1; send 1 agreed = 2
                visit 0 = 1
                deafen 0 1 = true
                visit 1 = 1                         # node 0 holds the first, the others the second
                whole log 0 = 2; whole log 4 = empty
                form 0
                whole log 0 = 2 4; whole log 1 = 2 4; whole log 4 = 2 4
                """);
        sentences.run(words, FIRST_AT_NODE_0_ALONE + """
                place 0 1 = true; place 3 1 = true
                form 3; whole log 3 = 2 4 6         # with node 0
                """);
        sentences.run(words, FIRST_AT_NODE_0_ALONE + """
                place 0 1 = true
                form 4; whole log 4 = 5 7           # node 0 is in the old ring still, but no companion
                """);
        sentences.run("each delivers what it can;", """
                deafen 4 1 = true
                send 0 agreed = 1; send 0 agreed = 2; visit 0 = 2
                send 1 safe = 3; send 1 agreed = 4; visit 1 = 2
                whole log 0 = 2 4; whole log 4 = empty
                form 0
                whole log 0 = 2 4 7 9; whole log 4 = 2 4 7 9    # regular up to the safe one
                """);
    }

    private void lines() {
        String words = "the line of each becomes the greatest of their lines;";
        String lineAtNode4 = """
                send 0 safe = 1; send 0 safe = 2
                visits 0 1 2 3 4 = 2 0 0 0 0
                each line = 0 0 0 0 2
                each delivered = 0 0 0 0 2
                """;
        sentences.run(words, lineAtNode4 + """
                form 0
                whole log 0 = 2 4; whole log 3 = 2 4; whole log 4 = 2 4
                """);
        sentences.run(words, lineAtNode4 + """
                place 4 1 = true; form 0
                whole log 0 = 3 5; whole log 3 = 3 5; whole log 4 = 2 4     # that line was no companion's
                """);
        sentences.run(words, """
                send 0 safe = 1; visits 0 1 2 3 4 = 1 0 0 0 0
                send 0 safe = 2; visit 0 = 1
                each line = 1 0 0 0 1
                form 2
                whole log 0 = 2 5; whole log 1 = 2 5; whole log 4 = 2 5     # up to the line regular, then not
                """);
        sentences.run(words, """
                send 0 safe = 1; visits 0 1 2 3 4 = 1 0 0 0 0
                send 1 safe = 2; visits 0 1 2 3 4 = 0 1 0 0 0; visit 0 = 0
                each line = 2 1 1 1 1                                       # the greatest at the first
                form 2
                whole log 0 = 2 4; whole log 1 = 2 4; whole log 4 = 2 4
                """);
        sentences.run(words, """
                crash 4 = true; place 4 1 = true; restart 4 = true
                send 4 safe = 1; visit 4 = 1; line 4 = 1
                send 0 safe = 2; visit 0 = 1
                place 4 0 = true; form 4
                whole log 4 = 2; whole log 0 = 5            # a line of another old ring does not count
                """);
    }

    private void goingOn() {
        String words = "then each goes on from its place through the sequence numbers in order up to the greatest that "
                + "they hold.";
        sentences.run(words, """
                send 0 agreed = 1; send 0 safe = 2; send 1 agreed = 3
                visits 0 1 = 2 1
                form 0
                whole log 0 = 2 5 7; whole log 4 = 2 5 7    # from its place: the first not once more
                """);
        sentences.run(words, """
                form 0; each delivered = 0 0 0 0 0          # they hold nothing
                """);
        sentences.run(words, """
                send 0 safe = 1; visit 0 = 1
                deafen 2 1 = true; deafen 3 1 = true; deafen 4 1 = true
                send 1 agreed = 2; visit 1 = 1
                crash 0 = true; crash 1 = true
                form 2
                whole log 2 = 3; whole log 4 = 3            # the second was given, but they do not hold it
                """);
        sentences.run(words, """
                send 0 safe = 1; send 0 safe = 2
                visits 0 1 2 3 4 = 2 0 0 0 0
                send 1 safe = 3; visits 0 1 = 0 1
                each delivered = 2 2 0 0 2
                form 0
                whole log 0 = 2 4 7; whole log 3 = 2 4 7; whole log 4 = 2 4 7
                """);
        sentences.run("A message that they hold is appended to its log as TRANSITIONAL;",
                TermsBoundaries.numberAll(46) + """
                many send 3 safe = 47 .. 48; visit 3 = 2
                delivered 2 = 46
                form 0
                delivered 2 = 48; log 2 45 = 92; log 2 46 = 95; log 2 47 = 97; log 2 48 = BAD
                """);
    }

    private void gaps() {
        sentences.run("One that they do not hold is skipped.", FIRST_AT_NODE_0_ALONE + """
                crash 0 = true; form 4
                whole log 1 = 5 7; whole log 2 = 5 7; whole log 3 = 5 7; whole log 4 = 5 7
                whole log 0 = 2 4 6
                """);
        String words = "but if a sequence number that they do not hold was skipped before, this is done only when its "
                + "origin is a companion, otherwise the message is skipped too.";
        sentences.run(words, FIRST_AT_NODE_0_ALONE + """
                place 0 1 = true; place 1 1 = true; form 4
                whole log 2 = 7; whole log 3 = 7; whole log 4 = 7   # the second is of node 1, which is elsewhere
                """);
        sentences.run(words, FIRST_AT_NODE_0_ALONE + """
                crash 0 = true; crash 2 = true; form 4
                whole log 1 = 5; whole log 3 = 5; whole log 4 = 5   # the third is of node 2, which is down
                """);
        sentences.run(words, FIRST_AT_NODE_0_ALONE + """
                crash 0 = true; crash 1 = true; restart 1 = true; form 4
                members 4 = 30
                whole log 1 = empty; whole log 2 = 7; whole log 4 = 7   # node 1 is there, but from another ring
                """);
        sentences.run(words, FIRST_AT_NODE_0_ALONE + """
                crash 0 = true; crash 1 = true; crash 2 = true; form 4
                whole log 3 = empty; whole log 4 = empty
                """);
        sentences.run(words, """
                send 0 safe = 1; send 1 agreed = 2; visit 0 = 1
                deafen 2 1 = true; deafen 3 1 = true; deafen 4 1 = true
                visit 1 = 1
                send 2 agreed = 3; send 2 agreed = 4; visit 2 = 2
                crash 0 = true; crash 1 = true; form 4
                whole log 4 = 3 7 9         # before what was skipped, the origin does not matter
                whole log 2 = 3 7 9
                """);
        sentences.run(words, severalGaps() + """
                crash 0 = true; form 4
                whole log 4 = 5 9 11        # two are lacking; behind them both, what companions sent
                """);
        sentences.run(words, severalGaps() + """
                crash 0 = true; crash 3 = true; form 4
                whole log 4 = 5 9           # the fifth is of node 3, and there was a gap before
                whole log 2 = 5 9
                """);
        sentences.run(words, severalGaps() + """
                crash 0 = true; crash 2 = true; form 4
                whole log 4 = 5 11          # one that was skipped for its origin does not end the way
                """);
    }

    /** Of messages of the nodes 0, 1, 0, 2 and 3 the nodes 1 to 4 hold all but the first and the third. */
    private static String severalGaps() {
        return """
                send 0 agreed = 1; send 1 agreed = 2
                deafen 1 1 = true; deafen 2 1 = true; deafen 3 1 = true; deafen 4 1 = true
                visits 0 1 2 3 4 = 1 1 0 0 0
                send 0 agreed = 3; send 2 agreed = 4; send 3 agreed = 5
                deafen 1 2 = true; deafen 2 2 = true; deafen 3 2 = true; deafen 4 2 = true
                visits 0 1 2 3 = 2 0 1 1
                last 0 = 5; requests 0 = 2
                """;
    }

    private void inTheNewRing() {
        sentences.run("Then the node is in the new ring: it holds nothing,", """
                send 0 agreed = 1; send 0 agreed = 2; visit 0 = 2
                form 0; each ring = 2 2 2 2 2; each reach = 0 0 0 0 0
                deafen 1 1 = true
                send 0 agreed = 3; visit 0 = 1
                each reach = 1 0 1 1 1              # the old first does not stand for the new one
                visit 1 = 0; requests 0 = 1
                """);
        String words = "line, place and timer are 0;";
        sentences.run(words, """
                send 0 agreed = 1; send 0 agreed = 2
                visits 0 1 2 3 4 = 2 0 0 0 0; visit 0 = 0
                each line = 2 0 0 0 2
                form 1; each line = 0 0 0 0 0
                send 0 safe = 3; visit 0 = 1
                whole log 0 = 2 4; whole log 4 = 2 4        # the old line is not good for it
                """);
        sentences.run(words, """
                send 0 agreed = 1; send 0 agreed = 2; visit 0 = 2
                form 1; send 0 agreed = 3; visit 0 = 1
                whole log 0 = 2 4 6; whole log 4 = 2 4 6    # the place is 0, not 2
                """);
        sentences.run(words, """
                tick 0 = 0; tick 0 = 0; tick 0 = 0; tick 4 = 0; tick 4 = 0; tick 4 = 0
                place 3 1 = true; tick 3 = 0; tick 3 = 0; tick 3 = 0
                form 2; each ring = 2 2 2 1 2
                tick 0 = 0; tick 4 = 0; tick 4 = 0; tick 4 = 0; tick 4 = 1
                tick 3 = 1                                  # not in the area: its timer stayed
                """);
        sentences.run(words, """
                tick 1 = 0; tick 1 = 0; tick 1 = 0
                crash 4 = true; restart 4 = true
                visit 0 = 0; ring 1 = 3                     # formed anew by a visit
                form 1; ring 1 = 4
                """);
    }

    private void whatStays() {
        String words = "its queue, deafness and log stay.";
        sentences.run(words, """
                many send 0 agreed = 1 .. 3; send 1 agreed = 4; many send 4 safe = 5 .. 12
                visit 0 = 2
                form 0; each waiting = 1 1 0 0 8
                send 4 agreed = FULL
                visits 0 1 2 3 4 = 1 1 0 0 2
                stamp 3 = 129; stamp 4 = 130; stamp 5 = 131; stamp 6 = 132
                """);
        sentences.run(words, """
                deafen 3 2 = true
                send 0 agreed = 1; visit 0 = 1
                form 0
                send 0 agreed = 2; send 0 agreed = 3; visit 0 = 2
                each reach = 2 2 2 0 2
                visits 1 2 3 = 0 0 0; requests 0 = 1        # it was deaf to one more
                """);
        sentences.run(words, """
                send 0 agreed = 1; send 0 safe = 2; visit 0 = 2
                form 0; whole log 4 = 2 5
                send 0 agreed = 3; visit 0 = 1
                form 0; whole log 4 = 2 5 6
                """);
    }

    private void theRingThatWasLeft() {
        String words = "(A ring that a node has left keeps its token and its other nodes.";
        sentences.run(words, """
                deafen 2 1 = true
                send 0 agreed = 1; visits 0 1 2 = 1 0 0
                place 4 1 = true; form 4
                each ring = 1 1 1 1 2; each token = 3 3 3 3 4; each last = 1 1 1 1 0; each requests = 1 1 1 1 0
                each reach = 1 1 0 1 0
                visit 3 = 1; reach 2 = 1
                token 0 = NONE                              # node 4 was the next member
                """);
        sentences.run(words, """
                drop 0 = true
                place 4 1 = true; form 4
                each token = NONE NONE NONE NONE 4          # a lost one stays lost
                """);
        words = "But a token that was at a node that left is lost.)";
        sentences.run(words, """
                visits 0 1 = 0 0; place 2 1 = true
                each token = 2 2 2 2 2
                form 2; each token = NONE NONE 2 NONE NONE; each ring = 1 1 2 1 1
                last 0 = NONE; requests 0 = NONE; visits 0 1 2 = NONE NONE 0
                """);
        sentences.run(words, """
                place 4 1 = true; form 0                    # the token was at node 0, and node 4 stays behind
                each token = 0 0 0 0 NONE; each ring = 2 2 2 2 1; each members = 15 15 15 15 31
                place 4 0 = true; token 4 = NONE
                """);
    }
}
