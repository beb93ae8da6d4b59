/** What the document says before its promises: how long an object is used, and the terms up to a delivery. */
final class TermsBoundaries {
    private final Sentences sentences;

    TermsBoundaries(Sentences sentences) {
        this.sentences = sentences;
    }

    void tell() {
        sentences.section("What it is");
        fiveNodes();
        lengthOfUse();
        sentences.section("Terms");
        nodesAndAreas();
        hearing();
        rings();
        messages();
        reach();
        token();
        lineAndPlace();
        broadcast();
        delivery();
        codes();
    }

    private void fiveNodes() {
        sentences.run("Five nodes that broadcast messages in rings.", """
                ring 0 = 1; ring 4 = 1
                ring -1 = BAD; ring 5 = BAD
                """);
    }

    private void lengthOfUse() {
        String words = "An object is used for at most 512 calls after it has been made; what later calls answer is free.";
        sentences.run(words, "form 0\n".repeat(126) + """
                ring 4 = 127; members 4 = 31
                send 0 agreed = 1
                visit 0 = 1
                stamp 1 = 8129
                token 4 = 1
                last 4 = 1
                log 4 0 = 2         # the 512th call
                """);
        sentences.run(words, "crash 0 = true; restart 0 = true\n".repeat(254) + """
                send 0 safe = 1
                visit 0 = 1
                stamp 1 = 16321
                ring 4 = 256        # the 512th call
                """);
    }

    private void nodesAndAreas() {
        sentences.noRun("In each ring a token goes round; who has it numbers new messages, sends again what others lack, "
                + "and tells how far everybody has come. A ring whose token is lost, or that meets strangers, is formed "
                + "anew, and what was left over of the old rings is delivered then.");
        sentences.run("NODES 0 .. 4 are UP or DOWN;", """
                each ring = 1 1 1 1 1
                crash 0 = true; crash 4 = true
                each ring = DOWN 1 1 1 DOWN
                restart 0 = true; restart 4 = true
                each ring = 2 1 1 1 3
                """);
        sentences.run("each is in an AREA 0 .. 2.", """
                place 4 0 = true; place 0 2 = true
                place 4 -1 = false; place 4 3 = false
                form 4; members 4 = 30
                form 0; members 0 = 1
                """);
        sentences.run("Every node that is up is in exactly one RING.", """
                crash 3 = true; ring 3 = DOWN
                restart 3 = true; ring 3 = 2
                form 0; each ring = 3 3 3 3 3
                each members = 31 31 31 31 31
                place 3 1 = true; each ring = 3 3 3 3 3
                form 3; each ring = 3 3 3 4 3
                """);
    }

    private void hearing() {
        String words = "Two nodes HEAR one another when both are up, in the same area and in the same ring.";
        sentences.run(words, """
                send 0 agreed = 1; visit 0 = 1
                each reach = 1 1 1 1 1
                """);
        sentences.run(words, """
                crash 3 = true
                send 0 agreed = 1; visit 0 = 1
                each reach = 1 1 1 DOWN 1
                restart 3 = true; reach 3 = 0; delivered 3 = 0
                """);
        sentences.run(words, """
                place 3 2 = true            # the same ring, but another area
                send 0 agreed = 1; visit 0 = 1
                each reach = 1 1 1 0 1
                """);
        sentences.run(words, """
                place 3 2 = true; form 3    # another ring
                place 3 0 = true            # in the same area
                send 3 agreed = 1
                send 0 safe = 2; visit 0 = 1
                whole log 4 = 5
                whole log 3 = empty
                """);
        sentences.run(words, """
                place 0 2 = true; place 3 2 = true      # two of one ring, elsewhere together
                send 0 agreed = 1; visit 0 = 1
                each reach = 1 0 0 1 0
                """);
    }

    private void rings() {
        sentences.run("A ring has a number, MEMBERS (the nodes that were in it when it was formed; "
                + "that set never changes, also when nodes go),", """
                members 0 = 31
                crash 4 = true; members 0 = 31
                restart 4 = true; members 0 = 31; members 4 = 16
                place 3 1 = true; members 0 = 31
                form 3; members 0 = 31; members 3 = 8
                place 2 2 = true; form 2
                place 1 2 = true; form 1
                members 0 = 31; ring 0 = 1      # nobody else is left in it
                members 1 = 6; members 2 = 6
                """);
        sentences.run("and a TOKEN, which is AT one of its nodes or LOST.", """
                each token = 0 0 0 0 0
                visit 0 = 0; each token = 1 1 1 1 1
                drop 4 = true; each token = NONE NONE NONE NONE NONE
                visits 0 1 2 3 4 = NONE NONE NONE NONE NONE
                """);
    }

    private void messages() {
        sentences.run("MESSAGES are numbered 1, 2, .. (48 at most) in the order in which send() takes them;",
                numberAll(47) + """
                stamp 48 = BAD
                send 0 agreed = 48
                send 0 agreed = FULL; send 3 safe = FULL
                stamp 48 = 0; stamp 49 = BAD
                """);
        sentences.run("MESSAGES are numbered 1, 2, .. (48 at most) in the order in which send() takes them;", """
                send 4 agreed = 1; send 5 agreed = BAD; send 0 safe = 2
                crash 1 = true; send 1 agreed = DOWN; send 2 agreed = 3
                many send 3 agreed = 4 .. 11
                send 3 agreed = FULL; send 4 agreed = 12
                """);
        sentences.run("each has an ORIGIN (the node that sends it) and is AGREED or SAFE.", """
                send 1 agreed = 1; send 0 safe = 2
                waiting 0 = 1; waiting 1 = 1
                visits 0 1 = 1 1
                stamp 2 = 65; stamp 1 = 66
                whole log 0 = empty         # the safe one is the first
                """);
        sentences.run("It waits in its origin's QUEUE until it gets a SEQUENCE NUMBER in a ring, once.", """
                send 0 safe = 1; send 1 agreed = 2
                waiting 0 = 1; stamp 1 = 0
                visit 0 = 1; waiting 0 = 0; stamp 1 = 65
                form 0; waiting 0 = 0; waiting 1 = 1; stamp 1 = 65; stamp 2 = 0
                visit 0 = 0; last 0 = 0; stamp 1 = 65
                visit 1 = 1; stamp 2 = 129
                """);
        sentences.run("In every ring these are 1, 2, ..", """
                many send 0 agreed = 1 .. 3; visit 0 = 2
                stamp 1 = 65; stamp 2 = 66
                form 0; send 4 agreed = 4
                visits 0 1 2 3 4 = 1 0 0 0 1
                stamp 3 = 129; stamp 4 = 130
                crash 4 = true; restart 4 = true; send 4 agreed = 5
                visit 4 = 1; stamp 5 = 193
                """);
        sentences.run("In every ring these are 1, 2, ..", numberAll(48) + """
                stamp 1 = 65; stamp 47 = 111; stamp 48 = 112
                last 0 = 48
                """);
        sentences.run("A node HOLDS messages of its ring.", """
                send 0 agreed = 1; send 0 agreed = 2; visit 0 = 2; reach 4 = 2
                place 4 1 = true; reach 4 = 2       # it is in the ring still
                form 4; reach 4 = 0; reach 3 = 2
                """);
    }

    /** Rounds of the token in which so many messages are sent, two at each node, and numbered at once. */
    static String numberAll(int many) {
        StringBuilder text = new StringBuilder();
        int sent = 0;
        for (int n = 0; sent < many; n = (n + 1) % 5) {
            int now = Math.min(2, many - sent);
            text.append("many send ").append(n).append(" agreed = ").append(sent + 1).append(" .. ").append(sent + now);
            text.append("\nvisit ").append(n).append(" = ").append(now).append('\n');
            sent += now;
        }
        return text.toString();
    }

    private void reach() {
        String words = "Its REACH is the greatest a for which it holds all messages with the sequence numbers 1 .. a of "
                + "its ring (0 if it lacks the first).";
        sentences.run(words, """
                each reach = 0 0 0 0 0
                """);
        sentences.run(words, """
                deafen 3 1 = true
                send 0 agreed = 1; send 0 agreed = 2; visit 0 = 2
                each reach = 2 2 2 0 2          # it lacks the first
                """);
        sentences.run(words, """
                send 0 agreed = 1; visit 0 = 1
                deafen 3 1 = true
                send 1 agreed = 2; send 1 agreed = 3; visit 1 = 2
                each reach = 3 3 3 1 3          # it lacks the second
                visits 2 3 4 = 0 0 1
                each reach = 3 3 3 3 3
                """);
        sentences.run(words, """
                send 0 agreed = 1; visit 0 = 1
                deafen 3 1 = true
                send 1 agreed = 2; visit 1 = 1
                each reach = 2 2 2 1 2          # it lacks the last
                """);
        sentences.run(words, numberAll(48) + "each reach = 48 48 48 48 48");
    }

    private void token() {
        sentences.run("The token bears LAST, the latest sequence number given (0 at first);", """
                last 0 = 0
                send 0 agreed = 1; send 0 agreed = 2; send 0 agreed = 3
                visit 0 = 2; each last = 2 2 2 2 2
                visit 1 = 0; last 1 = 2
                form 0; last 0 = 0              # also in a ring that is formed anew
                visit 0 = 1; last 0 = 1
                crash 4 = true; restart 4 = true; last 4 = 0
                """);
        sentences.run("for every member a MARK (0 at first);", """
                send 0 safe = 1
                visits 0 1 2 3 = 1 0 0 0
                line 3 = 0                      # the mark of node 4 is 0 still
                visit 4 = 0; line 4 = 1
                """);
        // Several new rings, one after the other: what an old one had must not come back in any of them.
        for (int later = 1; later <= 7; later++) {
            sentences.run("for every member a MARK (0 at first);", """
                    send 0 agreed = 1
                    visits 0 1 2 3 4 = 1 0 0 0 0
                    line 4 = 1
                    """ + "form 0\n".repeat(later) + """
                    send 0 agreed = 2
                    visit 0 = 1; line 0 = 0         # also in a ring that is formed anew
                    visit 1 = 0; line 1 = 0
                    """);
            sentences.run("and REQUESTS, a set of sequence numbers (empty at first).", """
                    deafen 1 2 = true; send 0 agreed = 1; send 0 agreed = 2
                    visits 0 1 = 2 0; requests 0 = 2
                    """ + "form 0\n".repeat(later) + """
                    requests 0 = 0
                    send 0 agreed = 3; visits 0 1 = 1 0; requests 0 = 0; visit 2 = 0
                    """);
        }
        sentences.run("and REQUESTS, a set of sequence numbers (empty at first).", """
                requests 0 = 0
                deafen 1 1 = true; deafen 2 2 = true
                send 0 agreed = 1; send 0 agreed = 2
                visit 0 = 2; requests 0 = 0
                visit 1 = 0; requests 0 = 1
                visit 2 = 0; requests 0 = 2     # what both lack is in it once
                form 0; requests 0 = 0
                """);
    }

    private void lineAndPlace() {
        sentences.run("Every node has a LINE, the greatest sequence number of which it knows that all members hold "
                + "everything up to it,", """
                send 0 agreed = 1
                visits 0 1 2 3 4 = 1 0 0 0 0
                each line = 0 0 0 0 1           # all hold it, but only node 4 knows
                visit 0 = 0; each line = 1 0 0 0 1
                """);
        sentences.run("and a PLACE, the sequence number up to which its deliveries in the ring have come", """
                send 0 agreed = 1; send 0 safe = 2; send 1 agreed = 3
                visit 0 = 2; whole log 3 = 2
                visit 1 = 1; whole log 3 = 2    # it stays before the safe one
                visits 2 3 4 = 0 0 0; whole log 3 = 2
                visits 0 1 2 = 0 0 0; whole log 2 = 2 4 6
                visit 3 = 0; whole log 3 = 2 4 6
                """);
        sentences.run("(both 0 at first in a ring);", """
                each line = 0 0 0 0 0
                send 0 agreed = 1; send 0 agreed = 2
                visits 0 1 2 3 4 = 2 0 0 0 0
                line 4 = 2; delivered 4 = 2
                form 0; each line = 0 0 0 0 0
                send 0 agreed = 3; send 0 safe = 4; visit 0 = 2
                whole log 4 = 2 4 6             # from the first on, and the second is above the line
                """);
        sentences.run("a DEAFNESS and a TIMER.", """
                deafen 1 1 = true
                tick 2 = 0; tick 2 = 0; tick 2 = 0; tick 3 = 0
                send 0 agreed = 1; visit 0 = 1
                each reach = 1 0 1 1 1
                tick 3 = 0; ring 0 = 1; tick 2 = 1
                """);
    }

    private void broadcast() {
        sentences.run("TO BROADCAST a message, which the node then holds:", """
                deafen 0 2 = true
                send 0 agreed = 1; send 0 agreed = 2; visit 0 = 2
                reach 0 = 2; whole log 0 = 2 4      # it is not deaf to itself
                send 1 agreed = 3; send 1 agreed = 4; visit 1 = 2
                send 2 agreed = 5; visit 2 = 1
                reach 0 = 2                         # and its deafness was 2 still
                visits 3 4 0 = 0 0 0; requests 0 = 2
                """);
        sentences.run("every other node that hears it, in the order of nodes, holds it too then,", """
                place 1 1 = true; crash 2 = true
                send 0 agreed = 1; visit 0 = 1
                each reach = 1 0 DOWN 1 1
                """);
        String words = "but if its deafness is more than 0, that goes down by 1 and it does not get the message";
        sentences.run(words, """
                deafen 2 0 = true; deafen 3 1 = true; deafen 4 2 = true
                send 0 agreed = 1; visit 0 = 1
                each reach = 1 1 1 0 0
                send 1 agreed = 2; visit 1 = 1
                visit 2 = 0; requests 0 = 0
                visit 3 = 0; requests 0 = 1         # it got the second
                visit 4 = 0; requests 0 = 2         # it lacks both
                visit 0 = 2
                each reach = 2 2 2 2 2              # and is not deaf any more
                """);
        sentences.run(words, """
                deafen 4 1 = true; place 4 1 = true
                send 0 agreed = 1; visit 0 = 1      # node 4 does not hear it, so it stays deaf
                place 4 0 = true
                send 1 agreed = 2; visit 1 = 1
                visits 2 3 4 = 0 0 0; requests 0 = 2
                """);
        sentences.run("(it may hold it already).", """
                deafen 1 1 = true
                send 0 agreed = 1; visit 0 = 1
                visit 1 = 0; requests 0 = 1
                deafen 4 1 = true
                visit 2 = 1                         # node 4 holds it and keeps it, and is not deaf any more
                each reach = 1 1 1 1 1
                send 3 agreed = 2; visit 3 = 1
                each reach = 2 2 2 2 2
                """);
    }

    private void delivery() {
        sentences.run("TO DELIVER WHAT IT CAN: as long as a node holds the message with the sequence number place + 1,", """
                deafen 4 1 = true
                send 0 agreed = 1; send 0 agreed = 2; visit 0 = 2
                whole log 3 = 2 4
                whole log 4 = empty                 # it holds the second alone
                visits 1 2 3 4 = 0 0 0 0; whole log 4 = empty
                visit 0 = 1; whole log 4 = 2 4      # both at once
                """);
        String words = "and that is agreed or place + 1 <= its line,";
        sentences.run(words, """
                send 0 safe = 1; send 4 safe = 2
                visits 0 1 2 3 4 = 1 0 0 0 1
                line 4 = 1
                whole log 4 = 2                     # 1 <= 1, but not 2 <= 1
                whole log 3 = empty                 # not 1 <= 0
                """);
        sentences.run(words, """
                send 0 safe = 1; send 4 agreed = 2
                visits 0 1 2 3 4 = 1 0 0 0 1
                line 4 = 1
                whole log 4 = 2 4                   # the second is above the line, but agreed
                whole log 3 = empty                 # the second is agreed, but behind a safe one
                """);
        sentences.run("the message is appended to its LOG as REGULAR and its place goes up by 1.", """
                send 0 agreed = 1; visit 0 = 1; whole log 3 = 2
                visit 1 = 0; whole log 3 = 2        # not once more
                send 2 agreed = 2; visit 2 = 1; whole log 3 = 2 4
                """);
    }

    private void codes() {
        String words = "Codes: BAD is tested first, then DOWN_NODE, then the others in the order in which a method names "
                + "them.";
        sentences.run(words, numberAll(48) + """
                send 5 agreed = BAD; send -1 agreed = BAD       # not FULL
                crash 4 = true; send 4 agreed = DOWN            # not FULL
                send 3 agreed = FULL
                """);
        sentences.run(words, """
                many send 0 agreed = 1 .. 8; send 0 agreed = FULL
                drop 0 = true
                visit 5 = BAD; token 5 = BAD; last 5 = BAD; requests 5 = BAD        # not NONE
                crash 0 = true
                send 0 agreed = DOWN; visit 0 = DOWN
                token 0 = DOWN; last 0 = DOWN; requests 0 = DOWN                    # not NONE
                token 1 = NONE; last 1 = NONE; requests 1 = NONE; visit 1 = NONE
                """);
        sentences.run("A call that is refused (with a code or with false) changes nothing.", """
                send 0 safe = 1; send 0 agreed = 2; send 3 agreed = 3
                deafen 4 1 = true; tick 2 = 0; tick 2 = 0; tick 2 = 0; crash 1 = true; place 1 1 = true
                send 1 safe = DOWN; send 9 safe = BAD; visit 1 = DOWN; visit 2 = NONE; visit 7 = BAD
                tick 1 = DOWN; tick 5 = BAD; crash 1 = false; crash 5 = false; restart 0 = false; restart -1 = false
                place 0 3 = false; place 1 -1 = false; place 5 2 = false
                deafen 4 21 = false; deafen 4 -1 = false; deafen 1 3 = false; deafen 5 3 = false
                drop 1 = false; drop 5 = false; log 0 0 = BAD; log 5 0 = BAD; stamp 4 = BAD; stamp 0 = BAD
                each ring = 1 DOWN 1 1 1; each members = 31 DOWN 31 31 31; each token = 0 DOWN 0 0 0
                each last = 0 DOWN 0 0 0; each requests = 0 DOWN 0 0 0; each reach = 0 DOWN 0 0 0
                each line = 0 DOWN 0 0 0; each waiting = 2 DOWN 0 1 0; each delivered = 0 0 0 0 0
                stamp 1 = 0; stamp 2 = 0; stamp 3 = 0
                visit 0 = 2; each reach = 2 DOWN 2 2 0; each token = NONE DOWN NONE NONE NONE
                send 4 agreed = 4; tick 2 = 1; each ring = 2 DOWN 2 2 2; members 0 = 29
                whole log 0 = 3 5; whole log 1 = empty; whole log 4 = 3 5
                restart 1 = true; ring 1 = 3; visit 0 = 0; members 0 = 29; ring 0 = 2   # node 1 is in area 1
                """);
        sentences.run("The constants: NONE = -1: There is none.", """
                drop 0 = true; token 0 = -1; visit 0 = -1
                """);
        sentences.run("DOWN_NODE = -2: The node is down.", """
                crash 0 = true; ring 0 = -2; send 0 agreed = -2
                """);
        sentences.run("BAD = -3: A number is out of its range.", """
                ring 5 = -3; log 0 0 = -3; stamp 1 = -3
                """);
        sentences.run("FULL = -4: No more messages are taken.", """
                many send 0 agreed = 1 .. 8; send 0 agreed = -4
                """);
    }
}
