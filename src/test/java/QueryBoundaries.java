/** The promises 10 to 20: the calls that only answer. */
final class QueryBoundaries {
    private static final String BAD_NODE = "BAD when node is not 0 .. 4;";

    private final Sentences sentences;

    QueryBoundaries(Sentences sentences) {
        this.sentences = sentences;
    }

    void tell() {
        ring();
        members();
        token();
        last();
        requests();
        reach();
        line();
        waiting();
        delivered();
        log();
        stamp();
    }

    /** What is said in the same words of each query of a node that is up. */
    private void codes(String call, String downWords) {
        sentences.run(BAD_NODE, """
                CALL -1 = BAD; CALL 5 = BAD; CALL MIN = BAD; CALL MAX = BAD; CALL 32 = BAD
                crash 0 = true; CALL -1 = BAD; CALL 5 = BAD
                """.replace("CALL", call));
        for (int n = 0; n < 5; n++) {
            sentences.run(downWords, """
                    send NODE safe = 1; crash NODE = true; CALL NODE = DOWN
                    place NODE 1 = true; CALL NODE = DOWN
                    form OTHER; CALL NODE = DOWN
                    restart NODE = true; ring NODE = 3; crash NODE = true; CALL NODE = DOWN
                    """.replace("CALL", call).replace("NODE", "" + n).replace("OTHER", "" + (n + 1) % 5));
        }
    }

    /** What is said in the same words of each query of a token. */
    private void lostToken(String call) {
        String words = "NONE when it is lost.";
        String each = "each " + call + " = ";
        sentences.run(words, "drop 4 = true\n" + each + "NONE NONE NONE NONE NONE");
        sentences.run(words, "crash 0 = true\n" + each + "DOWN NONE NONE NONE NONE");
        sentences.run(words, "place 1 1 = true; visit 0 = 0\n" + each + "NONE NONE NONE NONE NONE");
        sentences.run(words, "place 0 2 = true; form 0; drop 0 = true\n" + each + "NONE NONE NONE NONE NONE");
        sentences.run(words, "drop 4 = true; form 4\n" + each + "0 0 0 0 0");
    }

    private void ring() {
        sentences.section("Promise 10: ring");
        sentences.run("The number of the node's ring.", """
                each ring = 1 1 1 1 1
                place 1 1 = true; form 1; each ring = 1 2 1 1 1
                crash 4 = true; restart 4 = true; each ring = 1 2 1 1 3
                drop 0 = true; ring 0 = 1
                form 0; each ring = 4 2 4 4 4
                """);
        codes("ring", "DOWN_NODE.");
    }

    private void members() {
        sentences.section("Promise 11: members");
        sentences.run("The members of the node's ring: 1 for node 0, 2 for node 1, 4, 8, 16 for the others, added.", """
                each members = 31 31 31 31 31
                place 0 1 = true; form 0; members 0 = 1
                place 0 2 = true; place 1 1 = true; form 1; members 1 = 2
                place 1 2 = true; place 2 1 = true; form 2; members 2 = 4
                place 2 2 = true; place 3 1 = true; form 3; members 3 = 8
                form 4; members 4 = 16
                form 0; each members = 7 7 7 8 16
                crash 1 = true; each members = 7 DOWN 7 8 16        # those that it was formed with
                """);
        codes("members", "DOWN_NODE.");
    }

    private void token() {
        sentences.section("Promise 12: token");
        sentences.run("The node at which the token of the node's ring is.", """
                each token = 0 0 0 0 0
                visits 0 1 2 3 = 0 0 0 0; each token = 4 4 4 4 4
                place 4 1 = true; place 0 2 = true; each token = 4 4 4 4 4      # wherever they are
                form 0; each token = 0 4 4 4 4
                """);
        codes("token", "DOWN_NODE;");
        lostToken("token");
    }

    private void last() {
        sentences.section("Promise 13: last");
        sentences.run("LAST of the token of the node's ring.", """
                each last = 0 0 0 0 0
                deafen 4 9 = true; place 3 1 = true
                send 0 agreed = 1; send 0 safe = 2; visit 0 = 2
                each last = 2 2 2 2 2                       # also for one who does not hold them
                form 3; each last = 2 2 2 0 2
                """);
        codes("last", "DOWN_NODE;");
        lostToken("last");
    }

    private void requests() {
        sentences.section("Promise 14: requests");
        sentences.run("How many requests the token of the node's ring bears.", """
                each requests = 0 0 0 0 0
                deafen 1 2 = true; send 0 agreed = 1; send 0 agreed = 2
                visit 0 = 2; each requests = 0 0 0 0 0      # not before the visit at the node that lacks them
                visit 1 = 0; each requests = 2 2 2 2 2
                place 4 1 = true; form 4; each requests = 2 2 2 2 0
                visit 2 = 2; each requests = 0 0 0 0 0
                """);
        codes("requests", "DOWN_NODE;");
        lostToken("requests");
    }

    private void reach() {
        sentences.section("Promise 15: reach");
        sentences.run("The node's reach.", """
                each reach = 0 0 0 0 0
                send 0 safe = 1; visit 0 = 1
                each reach = 1 1 1 1 1; each delivered = 0 0 0 0 0      # held, though not delivered
                drop 0 = true; each reach = 1 1 1 1 1
                place 4 1 = true; reach 4 = 1; form 4; each reach = 1 1 1 1 0
                """);
        codes("reach", "DOWN_NODE.");
    }

    private void line() {
        sentences.section("Promise 16: line");
        sentences.run("The node's line.", """
                each line = 0 0 0 0 0
                send 0 agreed = 1; visits 0 1 2 3 = 1 0 0 0
                each line = 0 0 0 0 0; each delivered = 1 1 1 1 1       # delivered, though below no line
                visit 4 = 0; each line = 0 0 0 0 1
                drop 0 = true; line 4 = 1; place 4 1 = true; line 4 = 1; form 4; line 4 = 0
                """);
        codes("line", "DOWN_NODE.");
    }

    private void waiting() {
        sentences.section("Promise 17: waiting");
        sentences.run("How many messages wait in the node's queue.", """
                each waiting = 0 0 0 0 0
                many send 0 agreed = 1 .. 8; send 3 safe = 9; each waiting = 8 0 0 1 0
                visit 0 = 2; each waiting = 6 0 0 1 0
                send 0 agreed = 10; send 0 agreed = 11; send 0 agreed = FULL; waiting 0 = 8
                form 0; waiting 0 = 8
                """);
        codes("waiting", "DOWN_NODE.");
    }

    private void delivered() {
        sentences.section("Promise 18: delivered");
        String words = "How many messages the node's log has, also when it is down.";
        sentences.run(words, """
                each delivered = 0 0 0 0 0
                crash 4 = true; delivered 4 = 0
                send 0 agreed = 1; send 0 safe = 2; visit 0 = 2; each delivered = 1 1 1 1 0
                crash 3 = true; each delivered = 1 1 1 1 0
                form 0; each delivered = 2 2 2 1 0
                restart 3 = true; delivered 3 = 1
                """);
        sentences.run(words, TermsBoundaries.numberAll(48) + """
                each delivered = 48 48 48 48 48; crash 4 = true; delivered 4 = 48
                """);
        sentences.run("BAD when node is not 0 .. 4.", """
                delivered -1 = BAD; delivered 5 = BAD; delivered MIN = BAD; delivered MAX = BAD
                """);
    }

    private void log() {
        sentences.section("Promise 19: log");
        String words = "Entry k of the node's log, from 0 on, also when it is down:";
        sentences.run(words, """
                many send 0 agreed = 1 .. 2; visit 0 = 2
                log 4 0 = 2; log 4 1 = 4; crash 4 = true; log 4 0 = 2; log 4 1 = 4
                restart 4 = true; log 4 0 = 2; log 4 1 = 4
                """);
        sentences.run("twice the number of the message, plus 1 if it is transitional.", """
                send 1 safe = 1; send 0 agreed = 2; send 0 safe = 3
                visits 0 1 = 2 1; form 0
                log 2 0 = 4; log 2 1 = 7; log 2 2 = 3
                """);
        sentences.run("twice the number of the message, plus 1 if it is transitional.",
                TermsBoundaries.numberAll(47) + """
                visits 4 = 0
                send 0 safe = 48; visit 0 = 1; form 0; log 3 46 = 94; log 3 47 = 97; log 3 48 = BAD
                """);
        sentences.run("BAD when node is not 0 .. 4", """
                send 0 agreed = 1; visit 0 = 1
                log -1 0 = BAD; log 5 0 = BAD; log MIN 0 = BAD; log MAX 0 = BAD; log 5 9 = BAD
                """);
        words = "or there is no such entry.";
        sentences.run(words, """
                log 0 0 = BAD; log 0 -1 = BAD
                send 0 agreed = 1; visit 0 = 1
                log 0 0 = 2; log 0 -1 = BAD; log 0 1 = BAD; log 0 48 = BAD; log 0 MIN = BAD; log 0 MAX = BAD
                crash 0 = true; log 0 0 = 2; log 0 1 = BAD; log 0 -1 = BAD
                """);
        sentences.run(words, TermsBoundaries.numberAll(48) + "log 2 47 = 96; log 2 48 = BAD; log 2 -1 = BAD");
    }

    private void stamp() {
        sentences.section("Promise 20: stamp");
        String words = "The sequence number of a message, plus 64 times the number of the ring in which it got that;";
        sentences.run(words, """
                many send 0 agreed = 1 .. 3; visit 0 = 2; stamp 1 = 65; stamp 2 = 66
                form 0; stamp 1 = 65                        # that ring, not the one of now
                visit 0 = 1; stamp 3 = 129
                crash 0 = true; stamp 3 = 129; stamp 1 = 65
                """);
        sentences.run(words, TermsBoundaries.numberAll(48) + "stamp 48 = 112");
        words = "0 when it has none (or is gone).";
        sentences.run(words, """
                many send 0 agreed = 1 .. 3; send 4 safe = 4; stamp 1 = 0; stamp 4 = 0
                visit 0 = 2; stamp 2 = 66; stamp 3 = 0
                crash 0 = true; stamp 2 = 66; stamp 3 = 0   # gone
                restart 0 = true; stamp 3 = 0; visit 0 = 0; stamp 3 = 0; stamp 4 = 0
                """);
        words = "BAD when there is no message with that number.";
        sentences.run(words, """
                stamp 1 = BAD; stamp 0 = BAD; stamp -1 = BAD
                send 3 agreed = 1; stamp 1 = 0; stamp 2 = BAD; stamp 0 = BAD; stamp -1 = BAD
                stamp 48 = BAD; stamp 49 = BAD; stamp MIN = BAD; stamp MAX = BAD
                send 5 agreed = BAD; stamp 2 = BAD          # one that was refused is none
                """);
        sentences.run(words, TermsBoundaries.numberAll(48) + "send 4 agreed = FULL; stamp 48 = 112; stamp 49 = BAD");
    }
}
