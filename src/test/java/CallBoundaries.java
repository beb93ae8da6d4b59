/** The promises 1 to 9: a new object, and the calls that change something. */
final class CallBoundaries {
    private static final String BAD_NODE = "BAD when node is not 0 .. 4;";

    private final Sentences sentences;

    CallBoundaries(Sentences sentences) {
        this.sentences = sentences;
    }

    void tell() {
        newObject();
        send();
        sendUntilFull();
        visit();
        tick();
        tickForms();
        crash();
        crashTakes();
        restart();
        place();
        deafen();
        drop();
    }

    private void newObject() {
        sentences.section("Promise 1: A new object");
        sentences.run("All nodes are up and in area 0;", """
                each ring = 1 1 1 1 1
                form 4; each ring = 2 2 2 2 2; members 4 = 31
                """);
        sentences.run("ring 1 has all of them as members,", """
                each ring = 1 1 1 1 1; each members = 31 31 31 31 31
                """);
        sentences.run("its token is at node 0;", """
                each token = 0 0 0 0 0
                each last = 0 0 0 0 0; each requests = 0 0 0 0 0
                visits 1 2 3 4 0 = NONE NONE NONE NONE 0
                """);
        sentences.run("queues and logs are empty,", """
                each waiting = 0 0 0 0 0; each delivered = 0 0 0 0 0
                log 0 0 = BAD; log 4 0 = BAD; stamp 1 = BAD
                each reach = 0 0 0 0 0; each line = 0 0 0 0 0
                send 0 agreed = 1
                """);
        sentences.run("deafness and timers 0.", """
                send 0 agreed = 1; visit 0 = 1
                each reach = 1 1 1 1 1
                """);
        for (int n = 0; n < 5; n++) {
            sentences.run("deafness and timers 0.", "form " + n + "; ring " + n + " = 2");
        }
    }

    private void send() {
        sentences.section("Promise 2: send");
        sentences.run("A message is put at the end of the node's queue:", """
                send 2 agreed = 1; send 2 agreed = 2; send 2 agreed = 3
                each waiting = 0 0 3 0 0
                visits 0 1 2 3 4 0 1 = 0 0 2 0 0 0 0
                stamp 1 = 65; stamp 2 = 66; stamp 3 = 0
                send 2 agreed = 4; visit 2 = 2      # behind the one that waited
                stamp 3 = 67; stamp 4 = 68
                """);
        sentences.run("its number.", """
                send 4 agreed = 1; send 0 safe = 2; send 4 safe = 3
                """);
        sentences.run(BAD_NODE, """
                send -1 agreed = BAD; send 5 agreed = BAD; send MIN safe = BAD; send MAX safe = BAD
                each waiting = 0 0 0 0 0; stamp 1 = BAD
                send 0 agreed = 1; send 4 agreed = 2
                """);
        sentences.run("DOWN_NODE;", """
                send 3 agreed = 1; crash 3 = true
                send 3 agreed = DOWN; send 3 safe = DOWN; stamp 2 = BAD
                restart 3 = true; waiting 3 = 0; send 3 agreed = 2
                """);
    }

    private void sendUntilFull() {
        sentences.run("FULL when 48 messages were taken already", TermsBoundaries.numberAll(46) + """
                send 0 agreed = 47; send 1 safe = 48
                send 0 agreed = FULL; send 1 safe = FULL; send 2 agreed = FULL      # though no queue is full
                each waiting = 1 1 0 0 0; stamp 49 = BAD
                visits 3 4 0 = 0 0 1; stamp 47 = 111; waiting 0 = 0
                send 0 agreed = FULL                                                # also when none waits
                """);
        sentences.run("FULL when 48 messages were taken already", """
                many send 0 agreed = 1 .. 8; crash 0 = true; restart 0 = true
                many send 0 agreed = 9 .. 16; crash 0 = true; restart 0 = true
                many send 0 agreed = 17 .. 24; crash 0 = true; restart 0 = true
                many send 0 agreed = 25 .. 32; crash 0 = true; restart 0 = true
                many send 0 agreed = 33 .. 40; crash 0 = true; restart 0 = true
                many send 0 agreed = 41 .. 48; crash 0 = true; restart 0 = true
                waiting 0 = 0; send 0 agreed = FULL; send 1 agreed = FULL   # those that are gone were taken too
                stamp 48 = 0; stamp 49 = BAD
                """);
        String words = "or 8 wait in the queue.";
        sentences.run(words, """
                many send 1 agreed = 1 .. 7; waiting 1 = 7
                send 1 safe = 8; waiting 1 = 8
                send 1 agreed = FULL; send 1 safe = FULL; waiting 1 = 8; stamp 9 = BAD
                send 2 agreed = 9                                   # another queue
                visits 0 1 = 0 2; waiting 1 = 6
                send 1 agreed = 10; send 1 agreed = 11; send 1 agreed = FULL; waiting 1 = 8
                visits 2 3 4 0 1 = 1 0 0 0 2
                stamp 9 = 67; stamp 3 = 68; stamp 4 = 69
                """);
        sentences.run(words, """
                many send 4 agreed = 1 .. 8; send 4 agreed = FULL
                form 4; send 4 agreed = FULL                        # the queue goes along into the new ring
                crash 4 = true; restart 4 = true
                many send 4 agreed = 9 .. 16; send 4 agreed = FULL
                """);
    }

    private void visit() {
        sentences.section("Promise 3: visit");
        sentences.run("A visit of the token at the node, if it is there:", """
                visit 0 = 0; visit 0 = NONE; visit 1 = 0; token 0 = 2
                """);
        String words = "how many broadcasts were made (of requests, and of new messages).";
        sentences.run(words, """
                visit 0 = 0
                """);
        sentences.run(words, """
                deafen 1 2 = true
                many send 0 agreed = 1 .. 3; many send 2 agreed = 4 .. 6
                visits 0 1 2 = 2 0 4
                """);
        sentences.run(words, """
                deafen 1 2 = true
                many send 0 agreed = 1 .. 2
                visits 0 1 2 = 2 0 2                                # of requests alone
                """);
        sentences.run(words, """
                place 4 2 = true; form 4
                many send 4 agreed = 1 .. 3; visit 4 = 2; visit 4 = 1; visit 4 = 0      # also if nobody hears them
                """);
        sentences.run(words, """
                deafen 1 20 = true; deafen 2 20 = true; deafen 3 20 = true; deafen 4 20 = true
                send 0 agreed = 1; visit 0 = 1                      # also if all are deaf
                """);
        sentences.run(words, """
                crash 4 = true; restart 4 = true
                many send 0 agreed = 1 .. 2; visit 0 = 2; ring 0 = 3        # also if the area is formed anew then
                """);
        sentences.run(BAD_NODE, """
                send 0 agreed = 1
                visit -1 = BAD; visit 5 = BAD; visit MIN = BAD; visit MAX = BAD
                each token = 0 0 0 0 0; each waiting = 1 0 0 0 0; visit 0 = 1
                """);
        sentences.run("DOWN_NODE;", """
                crash 0 = true; visit 0 = DOWN; crash 3 = true; visit 3 = DOWN
                each ring = DOWN 1 1 DOWN 1
                """);
        words = "NONE when the token of the node's ring is not at it.";
        sentences.run(words, """
                send 1 safe = 1; tick 1 = 0; tick 1 = 0; tick 1 = 0
                visit 1 = NONE                                      # it is at another node
                waiting 1 = 1; stamp 1 = 0; each token = 0 0 0 0 0; last 1 = 0
                tick 1 = 1                                          # the timer stayed
                """);
        sentences.run(words, """
                send 0 agreed = 1; drop 3 = true
                visits 0 1 2 3 4 = NONE NONE NONE NONE NONE         # it is lost
                waiting 0 = 1; stamp 1 = 0; delivered 0 = 0
                """);
        sentences.run(words, """
                place 4 1 = true; form 4; send 0 agreed = 1
                visit 4 = 0; visit 0 = 1; token 0 = 1
                visit 0 = NONE; visit 4 = 0                         # each ring has a token of its own
                """);
    }

    private void tick() {
        sentences.section("Promise 4: tick");
        sentences.run("The node's timer goes up by 1;", """
                tick 2 = 0; tick 2 = 0; tick 3 = 0; tick 2 = 0; tick 3 = 0; tick 4 = 0; ring 0 = 1
                tick 2 = 1; ring 0 = 2
                """);
        sentences.run("Answers 1 if that was done, otherwise 0.", """
                tick 0 = 0; tick 0 = 0; tick 0 = 0; ring 0 = 1; tick 0 = 1; ring 0 = 2
                tick 0 = 0; tick 0 = 0; tick 0 = 0; ring 0 = 2; tick 0 = 1; ring 0 = 3
                """);
        sentences.run(BAD_NODE, """
                tick 0 = 0; tick 0 = 0; tick 0 = 0
                tick -1 = BAD; tick 5 = BAD; tick MIN = BAD; tick MAX = BAD
                ring 0 = 1; tick 0 = 1
                """);
        sentences.run("DOWN_NODE.", """
                tick 2 = 0; tick 2 = 0; tick 2 = 0; crash 2 = true
                tick 2 = DOWN; tick 2 = DOWN; tick 2 = DOWN; tick 2 = DOWN; ring 0 = 1
                restart 2 = true; form 2; ring 2 = 3
                """);
    }

    private void tickForms() {
        String words = "when it is 4 then, the node's area (also if it is alone there, or the token is at it) is formed "
                + "anew.";
        sentences.run(words, """
                tick 1 = 0; tick 1 = 0; tick 1 = 0; ring 1 = 1
                tick 1 = 1; each ring = 2 2 2 2 2
                """);
        sentences.run(words, """
                place 4 1 = true; form 4                            # alone there
                ring 4 = 2; members 4 = 16; token 4 = 4
                form 4; ring 4 = 3; members 4 = 16; token 4 = 4     # and the token is at it
                each ring = 1 1 1 1 3
                """);
        sentences.run(words, """
                token 0 = 0; form 0; each ring = 2 2 2 2 2          # the token is at it
                visit 0 = 0; form 0; each ring = 3 3 3 3 3; token 4 = 0
                """);
        sentences.run(words, """
                place 4 1 = true; form 4
                send 4 safe = 1; send 4 safe = 2; visit 4 = 2; whole log 4 = 2 4
                drop 4 = true; form 4; token 4 = 4                  # alone, with a token that was lost
                whole log 4 = 2 4
                """);
        sentences.run(words, """
                place 1 2 = true; place 3 2 = true
                tick 1 = 0; tick 1 = 0; tick 1 = 0
                place 1 0 = true; tick 1 = 1                        # the area in which it is now
                each members = 23 23 23 31 23
                """);
    }

    private void crash() {
        sentences.section("Promise 5: crash");
        sentences.run("The node goes down: true.", """
                crash 0 = true; crash 4 = true; each ring = DOWN 1 1 1 DOWN
                crash 1 = true; crash 2 = true; crash 3 = true; each ring = DOWN DOWN DOWN DOWN DOWN
                """);
        sentences.run("It leaves its ring", """
                crash 2 = true; each ring = 1 1 DOWN 1 1; each members = 31 31 DOWN 31 31
                restart 2 = true; each ring = 1 1 2 1 1
                """);
        String words = "(if the token is at it, the token is lost),";
        sentences.run(words, """
                crash 0 = true; each token = DOWN NONE NONE NONE NONE
                each last = DOWN NONE NONE NONE NONE; each requests = DOWN NONE NONE NONE NONE; drop 1 = false
                """);
        sentences.run(words, """
                crash 1 = true; each token = 0 DOWN 0 0 0           # it is not at it
                crash 4 = true; visit 0 = 0; each token = NONE DOWN NONE NONE DOWN
                """);
        sentences.run(words, """
                visits 0 1 2 3 = 0 0 0 0; crash 0 = true; token 1 = 4; crash 4 = true; token 1 = NONE
                """);
        sentences.run("False when node is not 0 .. 4", """
                crash -1 = false; crash 5 = false; crash MIN = false; crash MAX = false
                each ring = 1 1 1 1 1; each token = 0 0 0 0 0
                """);
        sentences.run("or is down.", """
                crash 4 = true; crash 4 = false; each ring = 1 1 1 1 DOWN
                restart 4 = true; ring 4 = 2; crash 4 = true; crash 4 = false
                """);
    }

    private void crashTakes() {
        sentences.run("what it held is forgotten,", """
                deafen 1 1 = true; deafen 2 1 = true; deafen 3 1 = true; deafen 4 1 = true
                send 0 agreed = 1; visit 0 = 1; each reach = 1 0 0 0 0
                crash 0 = true; restart 0 = true; reach 0 = 0
                form 4; each delivered = 1 0 0 0 0
                """);
        sentences.run("the messages of its queue are gone for good;", """
                many send 0 agreed = 1 .. 3; visit 0 = 2; send 1 agreed = 4
                crash 0 = true; waiting 0 = DOWN; stamp 2 = 66; stamp 3 = 0
                restart 0 = true; waiting 0 = 0; visit 0 = 0; stamp 3 = 0; last 0 = 0
                each ring = 3 3 3 3 3
                send 0 agreed = 5; visits 0 1 = 1 1; stamp 5 = 193; stamp 4 = 194; stamp 3 = 0
                """);
        sentences.run("its deafness becomes 0;", """
                deafen 3 20 = true; crash 3 = true; restart 3 = true; form 0
                send 0 agreed = 1; visit 0 = 1; each reach = 1 1 1 1 1
                """);
        sentences.run("its log stays.", """
                send 0 agreed = 1; send 0 safe = 2; visit 0 = 2
                crash 4 = true; whole log 4 = 2; whole log 0 = 2
                restart 4 = true; whole log 4 = 2
                send 4 agreed = 3; place 4 1 = true; visit 4 = 1; whole log 4 = 2 6
                crash 4 = true; whole log 4 = 2 6
                """);
    }

    private void restart() {
        sentences.section("Promise 6: restart");
        sentences.run("A node that is down comes up, as the only member of a new ring with the next number and a token "
                + "at it;", """
                crash 4 = true; restart 4 = true
                ring 4 = 2; members 4 = 16; token 4 = 4; last 4 = 0; requests 4 = 0
                crash 0 = true; crash 4 = true
                restart 0 = true; ring 0 = 3; members 0 = 1; token 0 = 0
                restart 4 = true; ring 4 = 4
                each ring = 3 1 1 1 4; each members = 1 31 31 31 16; each token = 0 NONE NONE NONE 4
                """);
        sentences.run("it holds nothing,", """
                send 0 agreed = 1; visit 0 = 1; reach 3 = 1
                crash 3 = true; restart 3 = true; reach 3 = 0
                """);
        sentences.run("its queue is empty,", """
                many send 3 agreed = 1 .. 8; crash 3 = true; restart 3 = true
                waiting 3 = 0; visit 3 = 0; many send 3 agreed = 9 .. 16
                """);
        String words = "line, place and timer are 0: true.";
        sentences.run(words, """
                send 0 agreed = 1; send 0 agreed = 2
                visits 0 1 2 3 4 = 2 0 0 0 0; line 4 = 2; delivered 4 = 2
                crash 4 = true; place 4 1 = true; restart 4 = true; line 4 = 0
                send 4 agreed = 3; visit 4 = 1; whole log 4 = 2 4 6         # the place was 0, not 2
                """);
        sentences.run(words, """
                tick 4 = 0; tick 4 = 0; tick 4 = 0
                crash 4 = true; restart 4 = true; form 4
                """);
        sentences.run("False when node is not 0 .. 4", """
                crash 0 = true; crash 4 = true
                restart -1 = false; restart 5 = false; restart MIN = false; restart MAX = false
                each ring = DOWN 1 1 1 DOWN; restart 4 = true; ring 4 = 2
                """);
        sentences.run("or is up.", """
                send 0 agreed = 1; deafen 4 1 = true; tick 3 = 0; tick 3 = 0; tick 3 = 0
                restart 0 = false; restart 3 = false; restart 4 = false
                each ring = 1 1 1 1 1; waiting 0 = 1; token 3 = 0
                visit 0 = 1; each reach = 1 1 1 1 0; tick 3 = 1; ring 3 = 2
                crash 0 = true; restart 0 = true; restart 0 = false; ring 0 = 3
                """);
    }

    private void place() {
        sentences.section("Promise 7: place");
        String words = "The node, up or down, is in that area (perhaps the one in which it is) from now on (rings and "
                + "tokens stay as they are): true.";
        sentences.run(words, """
                place 0 2 = true; place 1 2 = true
                each ring = 1 1 1 1 1; each members = 31 31 31 31 31; each token = 0 0 0 0 0
                send 0 agreed = 1; visit 0 = 1; each reach = 1 1 0 0 0; token 4 = 1
                place 1 0 = true; send 1 agreed = 2; visit 1 = 1
                form 4; each members = 31 30 30 30 30
                """);
        sentences.run(words, """
                crash 3 = true; place 3 2 = true; restart 3 = true  # down
                visit 0 = 0; each ring = 1 1 1 2 1
                place 3 0 = true; visit 1 = 0; each ring = 3 3 3 3 3
                """);
        sentences.run(words, """
                place 0 0 = true; place 4 0 = true                  # the one in which it is
                send 0 agreed = 1; visit 0 = 1; each reach = 1 1 1 1 1
                crash 4 = true; place 4 0 = true; restart 4 = true; visit 1 = 0; ring 4 = 3
                """);
        sentences.run(words, """
                send 0 safe = 1; send 4 agreed = 2; visit 0 = 1; deafen 4 1 = true; tick 4 = 0; tick 4 = 0; tick 4 = 0
                place 4 1 = true; place 4 0 = true
                reach 4 = 1; waiting 4 = 1; send 1 agreed = 3; visit 1 = 1; reach 4 = 1; tick 4 = 1
                """);
        sentences.run("False when node is not 0 .. 4", """
                place -1 1 = false; place 5 1 = false; place MIN 0 = false; place MAX 2 = false; place 5 3 = false
                form 0; members 0 = 31
                """);
        sentences.run("or area not 0 .. 2.", """
                place 4 -1 = false; place 4 3 = false; place 4 MIN = false; place 4 MAX = false
                crash 3 = true; place 3 3 = false; place 3 -1 = false; restart 3 = true
                form 0; members 0 = 31                              # they are in area 0 still
                place 4 2 = true; place 4 3 = false; form 4; members 4 = 16
                """);
    }

    private void deafen() {
        sentences.section("Promise 8: deafen");
        String words = "The node's deafness becomes n: true.";
        sentences.run(words, """
                deafen 4 20 = true
                many send 0 agreed = 1 .. 4; many send 1 agreed = 5 .. 8; many send 2 agreed = 9 .. 12
                many send 3 agreed = 13 .. 14
                visits 0 1 2 3 4 = 2 2 2 2 0; requests 0 = 8
                visits 0 1 2 3 4 = 10 2 2 0 0; requests 0 = 12; reach 4 = 0     # deaf to 8, 8 again, and 4
                visit 0 = 12; reach 4 = 14
                """);
        sentences.run(words, """
                deafen 4 20 = true; deafen 4 0 = true               # 0 is not deaf
                deafen 3 20 = true; deafen 3 1 = true; deafen 2 1 = true; deafen 2 1 = true     # not added to
                send 0 agreed = 1; send 0 agreed = 2; visit 0 = 2
                each reach = 2 2 0 0 2
                visits 1 2 3 = 0 0 0; requests 0 = 1; visit 4 = 1; each reach = 2 2 2 2 2
                """);
        sentences.run("False when node is not 0 .. 4", """
                deafen -1 1 = false; deafen 5 1 = false; deafen MIN 0 = false; deafen MAX 20 = false
                send 0 agreed = 1; visit 0 = 1; each reach = 1 1 1 1 1
                """);
        sentences.run("or is down,", """
                crash 4 = true; deafen 4 1 = false; deafen 4 0 = false; restart 4 = true; form 0
                send 0 agreed = 1; visit 0 = 1; each reach = 1 1 1 1 1
                """);
        sentences.run("or n is not 0 .. 20.", """
                deafen 4 -1 = false; deafen 4 21 = false; deafen 4 MIN = false; deafen 4 MAX = false
                deafen 3 1 = true; deafen 3 -1 = false; deafen 3 21 = false
                send 0 agreed = 1; send 0 agreed = 2; visit 0 = 2
                each reach = 2 2 2 0 2; visits 1 2 3 = 0 0 0; requests 0 = 1
                """);
    }

    private void drop() {
        sentences.section("Promise 9: drop");
        String words = "The token of the node's ring, wherever it is, is lost: true.";
        sentences.run(words, """
                drop 0 = true; each token = NONE NONE NONE NONE NONE; visit 0 = NONE
                """);
        sentences.run(words, """
                visit 0 = 0; place 4 2 = true
                drop 4 = true; each token = NONE NONE NONE NONE NONE; visit 1 = NONE    # at a node elsewhere
                """);
        sentences.run(words, """
                place 4 2 = true; form 4
                drop 4 = true; each token = 0 0 0 0 NONE            # only that of its own ring
                drop 1 = true; each token = NONE NONE NONE NONE NONE
                form 0; each token = 0 0 0 0 NONE
                """);
        sentences.run("False when node is not 0 .. 4", """
                drop -1 = false; drop 5 = false; drop MIN = false; drop MAX = false; each token = 0 0 0 0 0
                """);
        sentences.run("or is down,", """
                crash 4 = true; drop 4 = false; each token = 0 0 0 0 DOWN
                """);
        words = "or that token is lost already.";
        sentences.run(words, """
                drop 0 = true; drop 0 = false; drop 4 = false       # dropped
                form 0; drop 0 = true
                """);
        sentences.run(words, """
                crash 0 = true; drop 1 = false                      # crashed with the node
                """);
        sentences.run(words, """
                place 1 1 = true; visit 0 = 0; drop 0 = false; drop 1 = false       # passed to one who does not hear
                """);
        sentences.run(words, """
                place 0 1 = true; form 0; drop 1 = false; drop 0 = true             # it was at a node that left
                """);
    }
}
