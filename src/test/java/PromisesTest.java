/** For each promise of the document: ordinary inputs, the edges that it names, and wrong inputs. */
public final class PromisesTest {
    private static final String ALL_QUERIES_NEW = """
            ring %1$d = 1
            members %1$d = 31
            token %1$d = 0
            last %1$d = 0
            requests %1$d = 0
            reach %1$d = 0
            line %1$d = 0
            waiting %1$d = 0
            delivered %1$d = 0
            log %1$d 0 = BAD
            """;
    private static final String FORM_AT_0 = "tick 0 = 0\ntick 0 = 0\ntick 0 = 0\ntick 0 = 1\n";

    private final Script script = new Script();

    public static void main(String[] args) {
        PromisesTest test = new PromisesTest();
        test.newObject();
        test.send();
        test.sendUntilFull();
        test.visitAnswers();
        test.visitRequests();
        test.visitNewMessages();
        test.visitLines();
        test.visitPassesTheToken();
        test.visitMeetsStrangers();
        test.broadcast();
        test.tick();
        test.formAnewDelivers();
        test.formAnewGaps();
        test.formAnewSeveralRings();
        test.formAnewKeeps();
        test.crash();
        test.restart();
        test.place();
        test.deafen();
        test.drop();
        test.ringAndMembers();
        test.tokenLastRequests();
        test.reachLineWaiting();
        test.deliveredAndLog();
        test.stamp();
        test.wrongNodes();
        test.downNodes();
        test.script.end();
    }

    private void newObject() {
        for (int n = 0; n < 5; n++) {
            script.run("1 new object", String.format(ALL_QUERIES_NEW, n) + "stamp 1 = BAD\nrestart " + n + " = false");
            script.run("1 timers are 0", String.format("tick %1$d = 0\ntick %1$d = 0\ntick %1$d = 0\ntick %1$d = 1\n"
                    + "members %1$d = 31\nring %1$d = 2", n));
        }
        script.run("1 deafness is 0, one area", """
                send 0 agreed = 1
                visit 0 = 1
                reach 0 = 1
                reach 1 = 1
                reach 2 = 1
                reach 3 = 1
                reach 4 = 1
                """);
    }

    private void send() {
        script.run("2 numbers and the end of the queue", """
                send 3 agreed = 1
                send 1 safe = 2
                send 3 safe = 3
                send 3 agreed = 4
                waiting 3 = 3
                waiting 1 = 1
                waiting 0 = 0
                visit 0 = 0
                visit 1 = 1
                visit 2 = 0
                visit 3 = 2
                stamp 2 = 65
                stamp 1 = 66    # the first in the queue is the first to leave it
                stamp 3 = 67
                stamp 4 = 0
                waiting 3 = 1
                """);
        script.run("2 refused calls change nothing", """
                send 5 safe = BAD
                send -1 agreed = BAD
                crash 2 = true
                send 2 agreed = DOWN
                stamp 1 = BAD
                restart 2 = true
                waiting 2 = 0
                send 2 agreed = 1
                waiting 2 = 1
                """);
        script.run("2 safe is safe and agreed is agreed", """
                send 0 agreed = 1
                send 0 safe = 2
                visit 0 = 2
                delivered 4 = 1
                log 4 0 = 2
                """);
    }

    private void sendUntilFull() {
        script.run("2 eight wait in a queue", sends(2, 1, 8) + """
                send 2 agreed = FULL
                send 2 safe = FULL
                waiting 2 = 8
                stamp 9 = BAD
                send 1 agreed = 9
                visit 0 = 0
                visit 1 = 1
                visit 2 = 2
                waiting 2 = 6
                send 2 agreed = 10
                send 2 agreed = 11
                send 2 agreed = FULL
                """);
        script.run("2 forty-eight are taken", sends(0, 1, 8) + sends(1, 9, 8) + sends(2, 17, 8) + sends(3, 25, 8)
                + sends(4, 33, 8) + "visit 0 = 2\nvisit 1 = 2\nvisit 2 = 2\nvisit 3 = 2\nvisit 4 = 2\n"
                + sends(0, 41, 2) + sends(1, 43, 2) + sends(2, 45, 2) + sends(3, 47, 2) + """
                send 4 agreed = FULL
                waiting 4 = 6
                send 4 safe = FULL
                send 5 agreed = BAD
                stamp 48 = 0
                stamp 49 = BAD
                crash 4 = true
                send 4 agreed = DOWN
                restart 4 = true
                waiting 4 = 0
                send 4 agreed = FULL    # those that are gone were taken all the same
                """);
        script.run("2 all forty-eight in one ring", fortyEight() + """
                last 0 = 48
                stamp 48 = 112
                reach 4 = 48
                delivered 4 = 48
                log 4 47 = 96
                log 4 48 = BAD
                requests 0 = 0
                visit 0 = 0
                visit 1 = 0
                line 1 = 46     # node 2 made its mark when two had not yet come
                """);
    }

    private static String sends(int node, int from, int many) {
        StringBuilder text = new StringBuilder();
        for (int k = 0; k < many; k++) {
            text.append("send ").append(node).append(" agreed = ").append(from + k).append('\n');
        }
        return text.toString();
    }

    private static String fortyEight() {
        StringBuilder text = new StringBuilder();
        int message = 1;
        while (message <= 48) {
            for (int n = 0; n < 5; n++) {
                if (message <= 48) {
                    text.append(sends(n, message, 2)).append("visit ").append(n).append(" = 2\n");
                    message += 2;
                } else {
                    text.append("visit ").append(n).append(" = 0\n");
                }
            }
        }
        return text.toString();
    }

    private void visitAnswers() {
        script.run("3 codes", """
                visit -1 = BAD
                visit 5 = BAD
                visit 1 = NONE
                visit 4 = NONE
                token 0 = 0
                crash 1 = true
                visit 1 = DOWN
                drop 0 = true
                visit 0 = NONE
                """);
        script.run("3 a refused visit changes nothing", """
                send 1 agreed = 1
                tick 1 = 0
                tick 1 = 0
                tick 1 = 0
                visit 1 = NONE
                waiting 1 = 1
                stamp 1 = 0
                token 1 = 0
                tick 1 = 1
                """);
        script.run("3 requests and new messages are counted", """
                deafen 1 2 = true
                send 0 agreed = 1
                send 0 agreed = 2
                send 2 agreed = 3
                visit 0 = 2
                visit 1 = 0
                visit 2 = 3
                """);
    }

    private void visitRequests() {
        script.run("3 requests go out in ascending order", """
                deafen 1 2 = true
                send 0 agreed = 1
                send 0 agreed = 2
                visit 0 = 2
                visit 1 = 0
                requests 1 = 2
                deafen 1 1 = true
                visit 2 = 2
                requests 2 = 0
                reach 1 = 0     # it was deaf to the first, so it got the second alone
                visit 3 = 0
                visit 4 = 0
                visit 0 = 0
                visit 1 = 0
                requests 1 = 1
                visit 2 = 1
                reach 1 = 2
                """);
        script.run("3 what the holder lacks stays requested, once", """
                deafen 1 1 = true
                deafen 2 2 = true
                send 0 agreed = 1
                send 0 agreed = 2
                visit 0 = 2
                visit 1 = 0
                requests 0 = 1
                visit 2 = 0
                requests 0 = 2
                visit 3 = 2
                requests 0 = 0
                reach 1 = 2
                reach 2 = 2
                """);
        script.run("3 requests before new messages", """
                deafen 1 1 = true
                send 0 agreed = 1
                send 2 agreed = 2
                visit 0 = 1
                visit 1 = 0
                deafen 1 1 = true
                visit 2 = 2
                reach 1 = 0     # deaf to the request, not to the new one
                reach 4 = 2
                """);
        script.run("3 a request that all lack stays", """
                deafen 1 1 = true
                deafen 2 1 = true
                deafen 3 1 = true
                deafen 4 1 = true
                send 0 agreed = 1
                visit 0 = 1
                visit 1 = 0
                visit 2 = 0
                visit 3 = 0
                visit 4 = 0
                requests 4 = 1
                delivered 4 = 0
                visit 0 = 1
                requests 4 = 0
                delivered 4 = 1
                """);
    }

    private void visitNewMessages() {
        script.run("3 two at most, the first ones", """
                send 0 agreed = 1
                send 0 agreed = 2
                send 0 agreed = 3
                visit 0 = 2
                last 0 = 2
                waiting 0 = 1
                stamp 1 = 65
                stamp 2 = 66
                stamp 3 = 0
                visit 1 = 0
                visit 2 = 0
                visit 3 = 0
                visit 4 = 0
                visit 0 = 1
                stamp 3 = 67
                last 0 = 3
                """);
        script.run("3 only the node's own queue", """
                send 1 agreed = 1
                visit 0 = 0
                last 0 = 0
                visit 1 = 1
                last 0 = 1
                """);
    }

    private void visitLines() {
        script.run("3 the mark is the reach, the line the least mark", """
                deafen 2 1 = true
                send 0 safe = 1
                send 0 safe = 2
                visit 0 = 2
                visit 1 = 0
                visit 2 = 0     # lacks the first: its mark is 0
                visit 3 = 1
                visit 4 = 0
                line 4 = 0
                visit 0 = 0
                line 0 = 0
                visit 1 = 0
                visit 2 = 0     # now its mark is 2, the least of all
                line 2 = 2
                line 1 = 0
                delivered 2 = 2
                delivered 1 = 0
                visit 3 = 0
                line 3 = 2
                """);
        script.run("3 marks of members that are gone count", """
                send 0 safe = 1
                visit 0 = 1
                visit 1 = 0
                visit 2 = 0
                crash 4 = true
                visit 3 = 0
                line 3 = 0
                delivered 3 = 0
                token 3 = NONE
                """);
        script.run("3 a safe message holds up what comes after it", """
                send 0 safe = 1
                send 0 agreed = 2
                visit 0 = 2
                delivered 0 = 0
                visit 1 = 0
                visit 2 = 0
                visit 3 = 0
                delivered 4 = 0
                visit 4 = 0
                line 4 = 2
                delivered 4 = 2
                delivered 3 = 0
                log 4 0 = 2
                log 4 1 = 4
                """);
        script.run("3 the timer becomes 0", """
                tick 0 = 0
                tick 0 = 0
                tick 0 = 0
                tick 3 = 0
                tick 3 = 0
                tick 3 = 0
                visit 0 = 0
                tick 0 = 0
                tick 0 = 0
                tick 0 = 0
                ring 0 = 1
                tick 3 = 1      # a visit at another node leaves the timer
                """);
    }

    private void visitPassesTheToken() {
        script.run("3 round the ring", """
                visit 0 = 0
                token 0 = 1
                visit 1 = 0
                token 0 = 2
                visit 2 = 0
                token 0 = 3
                visit 3 = 0
                token 0 = 4
                visit 4 = 0
                token 4 = 0
                visit 4 = NONE
                """);
        script.run("3 past nodes that are no members", """
                place 1 1 = true
                place 3 1 = true
                """ + FORM_AT_0 + """
                members 0 = 21
                token 4 = 0
                visit 0 = 0
                token 4 = 2
                visit 2 = 0
                token 4 = 4
                visit 4 = 0
                token 4 = 0
                """);
        script.run("3 to a member that is down: lost", """
                crash 1 = true
                visit 0 = 0
                token 0 = NONE
                """);
        script.run("3 to a member elsewhere: lost", """
                place 1 1 = true
                visit 0 = 0
                token 0 = NONE
                token 1 = NONE
                ring 1 = 1
                """);
        script.run("3 to a member that came back: not lost", """
                place 1 1 = true
                place 1 0 = true
                visit 0 = 0
                token 0 = 1
                """);
        script.run("3 to a member that is in another ring now: lost", """
                place 1 1 = true
                tick 1 = 0
                tick 1 = 0
                tick 1 = 0
                tick 1 = 1
                visit 0 = 0
                token 0 = NONE
                """);
        script.run("3 the only member", """
                place 3 2 = true
                tick 3 = 0
                tick 3 = 0
                tick 3 = 0
                tick 3 = 1
                members 3 = 8
                token 3 = 3
                send 3 safe = 1
                visit 3 = 1
                token 3 = 3
                line 3 = 1
                delivered 3 = 1
                log 3 0 = 2
                """);
    }

    private void visitMeetsStrangers() {
        script.run("3 a stranger forms the area anew, after all else", """
                crash 3 = true
                restart 3 = true
                ring 3 = 2
                send 0 agreed = 1
                send 0 safe = 2
                send 0 agreed = 3
                visit 0 = 2
                ring 0 = 3
                ring 3 = 3
                members 2 = 31
                token 2 = 0
                last 2 = 0
                log 1 0 = 2
                log 1 1 = 5
                delivered 3 = 0     # it was not in the old ring
                waiting 0 = 1
                stamp 2 = 66
                """);
        script.run("3 a stranger in another area is none", """
                crash 3 = true
                place 3 1 = true
                restart 3 = true
                visit 0 = 0
                ring 0 = 1
                token 0 = 1
                """);
        script.run("3 a node that is down is no stranger", """
                place 3 1 = true
                tick 3 = 0
                tick 3 = 0
                tick 3 = 0
                tick 3 = 1
                crash 3 = true
                place 3 0 = true
                visit 0 = 0
                ring 0 = 1
                token 0 = 1
                """);
        script.run("3 only the visited node's area is formed anew", """
                place 4 2 = true
                crash 3 = true
                restart 3 = true
                visit 0 = 0
                members 0 = 15
                ring 0 = 3
                ring 4 = 1
                members 4 = 31
                token 4 = NONE
                """);
    }

    private void broadcast() {
        script.run("3 only those that hear the node get it", """
                place 2 1 = true
                place 4 2 = true
                crash 3 = true
                send 0 agreed = 1
                visit 0 = 1
                reach 0 = 1
                reach 1 = 1
                reach 2 = 0
                reach 3 = DOWN
                reach 4 = 0
                delivered 2 = 0
                """);
        script.run("3 nodes of another ring in the area get nothing", """
                crash 3 = true
                restart 3 = true
                send 3 agreed = 1
                send 0 agreed = 2
                visit 0 = 1
                delivered 3 = 0
                delivered 1 = 1
                waiting 3 = 1
                """);
        script.run("3 deafness goes down also for what is held", """
                deafen 1 1 = true
                send 0 agreed = 1
                send 3 agreed = 2
                visit 0 = 1
                visit 1 = 0
                requests 0 = 1
                deafen 4 1 = true
                visit 2 = 1         # node 4 holds it already, and is no longer deaf then
                visit 3 = 1
                reach 4 = 2
                delivered 4 = 2
                """);
        script.run("3 a node elsewhere does not lose deafness", """
                deafen 4 1 = true
                place 4 1 = true
                send 0 agreed = 1
                send 1 agreed = 2
                visit 0 = 1
                place 4 0 = true
                visit 1 = 1
                visit 2 = 0
                visit 3 = 0
                visit 4 = 0
                requests 4 = 2
                """);
        script.run("3 the sender is never deaf to itself", """
                deafen 0 3 = true
                send 0 agreed = 1
                send 0 agreed = 2
                visit 0 = 2
                reach 0 = 2
                send 1 agreed = 3
                send 1 agreed = 4
                send 2 agreed = 5
                send 2 agreed = 6
                visit 1 = 2
                visit 2 = 2
                reach 0 = 2         # deaf to 3, 4 and 5; it got 6
                visit 3 = 0
                visit 4 = 0
                visit 0 = 0
                requests 0 = 3
                """);
    }

    private void tick() {
        script.run("4 codes", """
                tick 5 = BAD
                tick -1 = BAD
                crash 2 = true
                tick 2 = DOWN
                tick 2 = DOWN
                tick 2 = DOWN
                tick 2 = DOWN
                ring 0 = 1
                """);
        script.run("4 each node has a timer of its own", """
                tick 0 = 0
                tick 1 = 0
                tick 2 = 0
                tick 3 = 0
                tick 4 = 0
                tick 0 = 0
                tick 1 = 0
                tick 0 = 0
                ring 0 = 1
                tick 0 = 1
                ring 0 = 2
                tick 1 = 0      # all timers of the area are 0 again
                tick 1 = 0
                tick 1 = 0
                tick 1 = 1
                ring 0 = 3
                """);
        script.run("4 also if it is alone, and the token is at it", """
                place 4 1 = true
                tick 4 = 0
                tick 4 = 0
                tick 4 = 0
                tick 4 = 1
                ring 4 = 2
                token 4 = 4
                tick 4 = 0
                tick 4 = 0
                tick 4 = 0
                tick 4 = 1
                ring 4 = 3
                members 4 = 16
                ring 0 = 1
                token 0 = 0
                """);
        script.run("4 timers of other areas stay", """
                place 4 1 = true
                tick 4 = 0
                tick 4 = 0
                tick 4 = 0
                """ + FORM_AT_0 + """
                tick 4 = 1
                """);
        script.run("4 nodes that are down are no members", "crash 2 = true\n" + FORM_AT_0 + """
                members 0 = 27
                ring 2 = DOWN
                """);
        script.run("4 the token is at the least member", """
                place 0 1 = true
                place 1 2 = true
                tick 4 = 0
                tick 4 = 0
                tick 4 = 0
                tick 4 = 1
                token 4 = 2
                members 4 = 28
                """);
    }

    private void formAnewDelivers() {
        script.run("4 all companions hold what one of them holds, regular before transitional", """
                deafen 1 1 = true
                deafen 2 2 = true
                send 0 agreed = 1
                send 0 agreed = 2
                send 0 safe = 3
                send 1 agreed = 4
                visit 0 = 2
                visit 1 = 1
                delivered 1 = 0
                delivered 2 = 0
                drop 0 = true
                """ + FORM_AT_0 + """
                delivered 0 = 3
                delivered 1 = 3
                delivered 2 = 3
                log 1 0 = 2
                log 1 1 = 4
                log 1 2 = 8
                log 2 0 = 2
                log 2 1 = 4
                log 2 2 = 8
                stamp 3 = 0
                waiting 0 = 1
                """);
        script.run("4 a safe message above all lines is transitional, and so is what follows", """
                send 0 safe = 1
                send 0 agreed = 2
                visit 0 = 2
                """ + FORM_AT_0 + """
                delivered 3 = 2
                log 3 0 = 3
                log 3 1 = 5
                log 0 0 = 3
                log 0 1 = 5
                """);
        script.run("4 the line of each becomes the greatest of their lines", """
                send 0 safe = 1
                visit 0 = 1
                visit 1 = 0
                visit 2 = 0
                visit 3 = 0
                visit 4 = 0
                line 4 = 1
                delivered 4 = 1
                delivered 0 = 0
                """ + FORM_AT_0 + """
                log 0 0 = 2
                log 3 0 = 2
                delivered 4 = 1
                line 4 = 0
                """);
        script.run("4 the line of one who is no companion does not count", """
                send 0 safe = 1
                visit 0 = 1
                visit 1 = 0
                visit 2 = 0
                visit 3 = 0
                visit 4 = 0
                place 4 1 = true
                """ + FORM_AT_0 + """
                log 0 0 = 3
                log 4 0 = 2
                """);
        script.run("4 what was delivered is not delivered again", """
                send 0 agreed = 1
                visit 0 = 1
                """ + FORM_AT_0 + FORM_AT_0 + """
                delivered 0 = 1
                delivered 4 = 1
                """);
    }

    private void formAnewGaps() {
        String gap = """
                send 0 agreed = 1
                send 1 agreed = 2
                send 2 agreed = 3
                deafen 1 1 = true
                deafen 2 1 = true
                deafen 3 1 = true
                deafen 4 1 = true
                visit 0 = 1
                visit 1 = 1
                visit 2 = 1
                place 0 1 = true
                """;
        script.run("4 behind a gap: what companions sent", gap + """
                tick 4 = 0
                tick 4 = 0
                tick 4 = 0
                tick 4 = 1
                delivered 4 = 2
                log 4 0 = 5
                log 4 1 = 7
                """);
        script.run("4 behind a gap: not what others sent", gap + """
                place 1 1 = true
                tick 4 = 0
                tick 4 = 0
                tick 4 = 0
                tick 4 = 1
                delivered 4 = 1
                log 4 0 = 7
                delivered 3 = 1
                delivered 2 = 1
                delivered 1 = 0
                ring 1 = 1
                tick 1 = 0
                tick 1 = 0
                tick 1 = 0
                tick 1 = 1
                delivered 1 = 3     # with node 0 nothing is missing
                log 1 0 = 2
                log 1 1 = 4
                log 1 2 = 6
                """);
        script.run("4 before a gap: from anybody", """
                send 0 safe = 1
                send 0 agreed = 2
                send 0 agreed = 3
                send 1 agreed = 4
                send 1 safe = 5
                visit 0 = 2
                deafen 2 1 = true
                deafen 3 1 = true
                deafen 4 1 = true
                visit 1 = 2
                crash 0 = true
                place 1 1 = true
                tick 2 = 0
                tick 2 = 0
                tick 2 = 0
                tick 2 = 1
                delivered 2 = 2
                log 2 0 = 3
                log 2 1 = 5
                """);
        script.run("4 an origin that came back in another ring is no companion", gap + """
                crash 2 = true
                restart 2 = true
                tick 4 = 0
                tick 4 = 0
                tick 4 = 0
                tick 4 = 1
                members 4 = 30
                delivered 4 = 1
                log 4 0 = 5
                delivered 2 = 0
                """);
    }

    private void formAnewSeveralRings() {
        script.run("4 for each old ring by itself", """
                place 0 1 = true
                place 1 1 = true
                """ + FORM_AT_0 + """
                ring 0 = 2
                tick 2 = 0
                tick 2 = 0
                tick 2 = 0
                tick 2 = 1
                ring 2 = 3
                send 0 safe = 1
                send 2 safe = 2
                send 2 agreed = 3
                visit 0 = 1
                visit 2 = 2
                stamp 1 = 129
                stamp 2 = 193
                stamp 3 = 194
                place 0 0 = true
                place 1 0 = true
                """ + FORM_AT_0 + """
                ring 4 = 4
                members 4 = 31
                delivered 0 = 1
                delivered 1 = 1
                log 1 0 = 3
                delivered 3 = 2
                log 3 0 = 5
                log 3 1 = 7
                reach 0 = 0
                reach 3 = 0
                """);
        script.run("4 five rings become one", """
                crash 1 = true
                crash 2 = true
                crash 3 = true
                crash 4 = true
                restart 1 = true
                restart 2 = true
                restart 3 = true
                restart 4 = true
                ring 4 = 5
                send 4 agreed = 1
                send 3 safe = 2
                send 0 agreed = 3
                visit 4 = 1
                ring 0 = 6
                ring 1 = 6
                ring 2 = 6
                ring 3 = 6
                members 3 = 31
                log 4 0 = 2
                delivered 3 = 0
                waiting 3 = 1
                visit 0 = 1
                visit 1 = 0
                visit 2 = 0
                visit 3 = 1
                stamp 3 = 385
                stamp 2 = 386
                """);
    }

    private void formAnewKeeps() {
        script.run("4 queue, deafness and log stay, the rest begins anew", """
                send 1 agreed = 1
                send 0 agreed = 2
                deafen 3 2 = true
                visit 0 = 1
                """ + FORM_AT_0 + """
                waiting 1 = 1
                delivered 3 = 1
                reach 3 = 0
                reach 0 = 0
                line 0 = 0
                last 0 = 0
                requests 0 = 0
                visit 0 = 0
                visit 1 = 1
                stamp 1 = 129
                reach 3 = 0         # its deafness was 1 still
                reach 4 = 1
                delivered 4 = 2
                log 4 1 = 2
                """);
        script.run("4 marks begin anew", """
                send 0 agreed = 1
                visit 0 = 1
                visit 1 = 0
                visit 2 = 0
                visit 3 = 0
                visit 4 = 0
                line 4 = 1
                """ + FORM_AT_0.repeat(2) + """
                send 0 safe = 2
                visit 0 = 1
                line 0 = 0
                delivered 0 = 1
                """);
        script.run("4 a ring that a node has left keeps its token and its other nodes", """
                send 0 agreed = 1
                visit 0 = 1
                place 4 1 = true
                tick 4 = 0
                tick 4 = 0
                tick 4 = 0
                tick 4 = 1
                ring 4 = 2
                ring 1 = 1
                token 1 = 1
                last 1 = 1
                members 1 = 31
                reach 1 = 1
                """);
        script.run("4 a token that was at a node that left is lost", """
                place 0 1 = true
                """ + FORM_AT_0 + """
                token 0 = 0
                token 1 = NONE
                ring 1 = 1
                visit 1 = NONE
                """);
        script.run("4 rings that are long gone leave nothing behind", """
                send 0 agreed = 1
                send 0 agreed = 2
                deafen 1 2 = true
                visit 0 = 2
                visit 1 = 0
                requests 1 = 2
                """ + FORM_AT_0.repeat(8) + """
                ring 0 = 9
                requests 0 = 0
                last 0 = 0
                send 0 safe = 3
                visit 0 = 1
                stamp 3 = 577
                line 0 = 0
                visit 1 = 0
                requests 0 = 0
                """);
    }

    private void crash() {
        script.run("5 what a crash takes and leaves", """
                send 1 agreed = 1
                send 1 agreed = 2
                send 1 agreed = 3
                visit 0 = 0
                visit 1 = 2
                deafen 1 5 = true
                waiting 1 = 1
                crash 1 = true
                ring 1 = DOWN
                waiting 1 = DOWN
                delivered 1 = 2
                log 1 1 = 4
                stamp 1 = 65
                stamp 3 = 0
                token 0 = 2
                members 0 = 31
                restart 1 = true
                waiting 1 = 0
                reach 1 = 0
                delivered 1 = 2
                stamp 3 = 0
                send 0 agreed = 4
                """ + FORM_AT_0 + """
                visit 0 = 1
                reach 1 = 1         # not deaf any more
                visit 1 = 0         # the third is gone for good
                stamp 3 = 0
                """);
        script.run("5 the token at it is lost", """
                crash 0 = true
                token 1 = NONE
                last 1 = NONE
                visit 1 = NONE
                """);
        script.run("5 the token elsewhere is not", """
                crash 3 = true
                token 1 = 0
                """);
        script.run("5 what it held is forgotten", """
                deafen 1 1 = true
                deafen 2 1 = true
                deafen 3 1 = true
                deafen 4 1 = true
                send 0 agreed = 1
                visit 0 = 1
                crash 0 = true
                restart 0 = true
                """ + FORM_AT_0 + """
                delivered 0 = 1
                delivered 1 = 0
                """);
        script.run("5 false", """
                crash -1 = false
                crash 5 = false
                crash 4 = true
                crash 4 = false
                """);
    }

    private void restart() {
        script.run("6 a ring of its own with the next number", """
                tick 4 = 0
                tick 4 = 0
                tick 4 = 0
                crash 4 = true
                restart 4 = true
                ring 4 = 2
                members 4 = 16
                token 4 = 4
                last 4 = 0
                requests 4 = 0
                reach 4 = 0
                line 4 = 0
                waiting 4 = 0
                ring 0 = 1
                tick 4 = 0          # the timer began anew
                crash 4 = true
                restart 4 = true
                ring 4 = 3
                """);
        script.run("6 the only member goes on alone", """
                crash 2 = true
                place 2 1 = true
                restart 2 = true
                send 2 safe = 1
                visit 2 = 1
                line 2 = 1
                delivered 2 = 1
                token 2 = 2
                stamp 1 = 129
                """);
        script.run("6 false", """
                restart 0 = false
                restart -1 = false
                restart 5 = false
                ring 0 = 1
                crash 0 = true
                restart 0 = true
                restart 0 = false
                ring 0 = 2
                """);
    }

    private void place() {
        script.run("7 rings and tokens stay", """
                place 0 2 = true
                token 1 = 0
                ring 0 = 1
                place 0 2 = true
                send 0 agreed = 1
                visit 0 = 1
                reach 1 = 0
                """);
        script.run("7 also when it is down", """
                crash 3 = true
                place 3 1 = true
                restart 3 = true
                visit 0 = 0
                ring 0 = 1          # no stranger in area 0
                place 3 0 = true
                visit 1 = 0
                ring 3 = 3
                members 3 = 31
                """);
        script.run("7 false", """
                place 0 3 = false
                place 0 -1 = false
                place -1 0 = false
                place 5 0 = false
                place 5 3 = false
                place 0 MIN = false
                place 0 MAX = false
                send 0 agreed = 1
                visit 0 = 1
                reach 1 = 1
                """);
        script.run("7 areas are apart", """
                place 0 0 = true
                place 1 1 = true
                place 2 2 = true
                place 3 1 = true
                tick 3 = 0
                tick 3 = 0
                tick 3 = 0
                tick 3 = 1
                members 1 = 10
                tick 2 = 0
                tick 2 = 0
                tick 2 = 0
                tick 2 = 1
                members 2 = 4
                """ + FORM_AT_0 + """
                members 0 = 17
                """);
    }

    private void deafen() {
        script.run("8 deaf to so many broadcasts", """
                deafen 4 2 = true
                send 0 agreed = 1
                send 0 agreed = 2
                send 1 agreed = 3
                visit 0 = 2
                visit 1 = 1
                visit 2 = 0
                visit 3 = 0
                visit 4 = 0
                requests 4 = 2
                """);
        script.run("8 becomes n, is not added to", """
                deafen 4 20 = true
                deafen 4 1 = true
                deafen 3 5 = true
                deafen 3 0 = true
                send 0 agreed = 1
                send 0 agreed = 2
                visit 0 = 2
                reach 3 = 2
                visit 1 = 0
                visit 2 = 0
                visit 3 = 0
                requests 3 = 0
                visit 4 = 0
                requests 4 = 1
                """);
        script.run("8 false", """
                deafen 0 21 = false
                deafen 0 -1 = false
                deafen 0 MIN = false
                deafen 0 MAX = false
                deafen 5 1 = false
                deafen -1 1 = false
                deafen 1 21 = false
                crash 2 = true
                deafen 2 1 = false
                restart 2 = true
                """ + FORM_AT_0 + """
                send 0 agreed = 1
                visit 0 = 1
                reach 1 = 1
                reach 2 = 1
                deafen 1 20 = true
                deafen 1 0 = true
                """);
    }

    private void drop() {
        script.run("9 wherever the token is", """
                visit 0 = 0
                place 3 2 = true
                drop 3 = true
                token 1 = NONE
                token 3 = NONE
                visit 1 = NONE
                drop 3 = false
                drop 1 = false
                """);
        script.run("9 only the node's own ring", """
                place 4 1 = true
                tick 4 = 0
                tick 4 = 0
                tick 4 = 0
                tick 4 = 1
                drop 4 = true
                token 4 = NONE
                token 0 = 0
                drop 0 = true
                """);
        script.run("9 false", """
                drop -1 = false
                drop 5 = false
                crash 1 = true
                drop 1 = false
                token 0 = 0
                """);
        script.run("9 lost by other ways", """
                crash 0 = true
                drop 1 = false
                """);
    }

    private void ringAndMembers() {
        script.run("10 11 numbers of rings, sets of members", """
                crash 1 = true
                place 3 1 = true
                """ + FORM_AT_0 + """
                ring 0 = 2
                members 0 = 21
                ring 2 = 2
                members 4 = 21
                ring 3 = 1
                members 3 = 31
                ring 1 = DOWN
                members 1 = DOWN
                crash 4 = true
                members 0 = 21      # the set never changes
                restart 4 = true
                ring 4 = 3
                members 4 = 16
                members 0 = 21
                restart 1 = true
                ring 1 = 4
                members 1 = 2
                tick 3 = 0
                tick 3 = 0
                tick 3 = 0
                tick 3 = 1
                ring 3 = 5
                members 3 = 8
                """);
    }

    private void tokenLastRequests() {
        script.run("12 13 14 what the token bears", """
                deafen 1 1 = true
                send 0 agreed = 1
                send 0 agreed = 2
                visit 0 = 2
                token 4 = 1
                last 4 = 2
                requests 4 = 0
                visit 1 = 0
                token 4 = 2
                last 4 = 2
                requests 4 = 1
                place 4 1 = true
                token 4 = 2         # also seen from elsewhere
                last 4 = 2
                requests 4 = 1
                drop 0 = true
                token 4 = NONE
                last 4 = NONE
                requests 4 = NONE
                token 0 = NONE
                last 0 = NONE
                requests 0 = NONE
                crash 4 = true
                token 4 = DOWN
                last 4 = DOWN
                requests 4 = DOWN
                """);
    }

    private void reachLineWaiting() {
        script.run("15 the reach ends at the first gap", """
                deafen 3 1 = true
                send 0 agreed = 1
                send 0 agreed = 2
                visit 0 = 2
                reach 3 = 0
                delivered 3 = 0
                visit 1 = 0
                visit 2 = 0
                visit 3 = 0
                visit 4 = 1
                reach 3 = 2
                delivered 3 = 2
                send 0 agreed = 3
                send 0 agreed = 4
                deafen 2 1 = true
                visit 0 = 2
                reach 2 = 2
                reach 3 = 4
                """);
        script.run("15 what is held counts, delivered or not", """
                send 0 safe = 1
                send 0 agreed = 2
                visit 0 = 2
                delivered 3 = 0
                reach 3 = 2
                reach 0 = 2
                """);
        script.run("16 the line is the node's own", """
                send 0 agreed = 1
                visit 0 = 1
                visit 1 = 0
                visit 2 = 0
                visit 3 = 0
                visit 4 = 0
                line 4 = 1
                line 3 = 0
                line 0 = 0
                visit 0 = 0
                line 0 = 1
                drop 0 = true
                line 0 = 1          # a lost token does not touch it
                reach 0 = 1
                """);
        script.run("17 waiting", """
                waiting 2 = 0
                send 2 agreed = 1
                send 2 safe = 2
                send 2 safe = 3
                waiting 2 = 3
                visit 0 = 0
                visit 1 = 0
                visit 2 = 2
                waiting 2 = 1
                crash 2 = true
                waiting 2 = DOWN
                restart 2 = true
                waiting 2 = 0
                """);
    }

    private void deliveredAndLog() {
        script.run("18 19 also when it is down", """
                send 0 agreed = 1
                send 0 safe = 2
                visit 0 = 2
                """ + FORM_AT_0 + """
                delivered 2 = 2
                log 2 0 = 2
                log 2 1 = 5
                crash 2 = true
                delivered 2 = 2
                log 2 0 = 2
                log 2 1 = 5
                log 2 2 = BAD
                log 2 -1 = BAD
                log 2 MAX = BAD
                log 2 MIN = BAD
                restart 2 = true
                delivered 2 = 2
                send 2 agreed = 3
                place 2 1 = true
                visit 2 = 1
                delivered 2 = 3
                log 2 2 = 6
                """);
    }

    private void stamp() {
        script.run("20 stamps", """
                stamp 0 = BAD
                stamp 1 = BAD
                stamp -1 = BAD
                send 0 agreed = 1
                send 1 agreed = 2
                stamp 1 = 0
                stamp 3 = BAD
                visit 0 = 1
                stamp 1 = 65
                """ + FORM_AT_0 + """
                stamp 1 = 65        # got once
                visit 0 = 0
                visit 1 = 1
                stamp 2 = 129
                crash 0 = true
                stamp 1 = 65
                send 3 agreed = 3
                crash 3 = true
                stamp 3 = 0
                stamp 4 = BAD
                stamp 48 = BAD
                stamp MIN = BAD
                stamp MAX = BAD
                """);
    }

    private void wrongNodes() {
        String[] coded = {"send %s safe", "visit %s", "tick %s", "ring %s", "members %s", "token %s", "last %s",
            "requests %s", "reach %s", "line %s", "waiting %s", "delivered %s", "log %s 0"};
        String[] refusing = {"crash %s", "restart %s", "place %s 0", "deafen %s 1", "drop %s"};
        for (String node : new String[] {"-1", "5", "MIN", "MAX", "32", "-2147483643"}) {
            for (String call : coded) {
                script.run("wrong node", String.format(call, node) + " = BAD\n" + untouched());
            }
            for (String call : refusing) {
                script.run("wrong node", String.format(call, node) + " = false\n" + untouched());
            }
        }
    }

    private static String untouched() {
        StringBuilder text = new StringBuilder();
        for (int n = 0; n < 5; n++) {
            text.append(String.format(ALL_QUERIES_NEW, n));
        }
        return text.toString();
    }

    private void downNodes() {
        String[] calls = {"send", "visit", "tick", "ring", "members", "token", "last", "requests", "reach", "line",
            "waiting"};
        for (int n = 0; n < 5; n++) {
            StringBuilder text = new StringBuilder("crash " + n + " = true\n");
            for (String call : calls) {
                text.append(call).append(' ').append(n).append(" = DOWN\n");
            }
            text.append("delivered ").append(n).append(" = 0\n");
            text.append("log ").append(n).append(" 0 = BAD\n");
            script.run("down node", text.toString());
        }
    }
}
