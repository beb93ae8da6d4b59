/** What the document says of a visit of the token, step by step. */
final class VisitBoundaries {
    private final Sentences sentences;

    VisitBoundaries(Sentences sentences) {
        this.sentences = sentences;
    }

    void tell() {
        sentences.section("Terms");
        order();
        requestsGoOut();
        newMessagesGoOut();
        markAndRequests();
        line();
        deliveries();
        timer();
        strangers();
        nextMember();
        lostToken();
    }

    private void order() {
        String words = "A VISIT of the token at node n, in this order:";
        sentences.run(words, """
                deafen 1 1 = true
                send 0 agreed = 1; send 2 agreed = 2
                visits 0 1 = 1 0
                deafen 1 1 = true
                visit 2 = 2                         # the request first: node 1 is deaf to that one
                reach 1 = 0; requests 0 = 0
                visits 3 4 0 1 = 0 0 0 0; requests 0 = 1
                """);
        sentences.run(words, """
                place 4 1 = true; form 4
                send 4 safe = 1; visit 4 = 1
                line 4 = 1; whole log 4 = 2         # numbered, marked, known and delivered in one visit
                """);
        sentences.run(words, """
                crash 4 = true; restart 4 = true    # a stranger
                send 0 agreed = 1; visit 0 = 1
                each ring = 3 3 3 3 3
                whole log 1 = 2                     # delivered before the area was formed anew, so regular
                stamp 1 = 65
                """);
    }

    private void requestsGoOut() {
        String words = "1. for every request, in ascending order, that n holds: the request is taken off, and n "
                + "broadcasts the message;";
        sentences.run(words, """
                visit 0 = 0; requests 0 = 0         # no request
                """);
        sentences.run(words, """
                deafen 1 2 = true
                send 0 agreed = 1; send 0 agreed = 2
                visits 0 1 = 2 0; requests 0 = 2
                deafen 1 1 = true
                visit 2 = 2; requests 0 = 0
                reach 1 = 0                         # deaf to the first that went out, which is the lesser
                visits 3 4 0 1 = 0 0 0 0; requests 0 = 1
                """);
        sentences.run(words, """
                send 0 agreed = 1; send 0 agreed = 2
                deafen 1 2 = true; deafen 2 1 = true
                visits 0 1 = 2 0; requests 0 = 2
                visit 2 = 1; requests 0 = 1         # node 2 lacks the first: that stays
                each reach = 2 0 0 2 2
                visit 3 = 1; requests 0 = 0
                each reach = 2 2 2 2 2
                """);
        sentences.run(words, """
                deafen 1 1 = true; deafen 2 1 = true; deafen 3 1 = true; deafen 4 1 = true
                send 0 agreed = 1
                visits 0 1 2 3 4 = 1 0 0 0 0
                requests 0 = 1                      # nobody who was visited holds it
                visit 0 = 1; requests 0 = 0; each reach = 1 1 1 1 1
                """);
        sentences.run(words, TermsBoundaries.numberAll(46) + """
                deafen 4 2 = true
                many send 3 agreed = 47 .. 48; visit 3 = 2
                visit 4 = 0; requests 0 = 2         # the last two of all
                visit 0 = 2; requests 0 = 0; reach 4 = 48
                """);
    }

    private void newMessagesGoOut() {
        String words = "2. the first two messages of n's queue (as many as there are) leave it one after the other: each "
                + "gets the sequence number LAST + 1, LAST goes up by 1, and n broadcasts it;";
        sentences.run(words, """
                visit 0 = 0; last 0 = 0; each reach = 0 0 0 0 0
                """);
        sentences.run(words, """
                send 0 agreed = 1
                visit 0 = 1; last 0 = 1; waiting 0 = 0; stamp 1 = 65; each reach = 1 1 1 1 1
                """);
        sentences.run(words, """
                send 0 agreed = 1; send 0 agreed = 2
                visit 0 = 2; last 0 = 2; waiting 0 = 0; stamp 1 = 65; stamp 2 = 66; each reach = 2 2 2 2 2
                """);
        sentences.run(words, """
                send 0 agreed = 1; send 0 agreed = 2; send 0 agreed = 3
                visit 0 = 2; last 0 = 2; waiting 0 = 1; stamp 2 = 66; stamp 3 = 0; each reach = 2 2 2 2 2
                visits 1 2 3 4 0 = 0 0 0 0 1
                stamp 3 = 67; last 0 = 3; waiting 0 = 0
                """);
        sentences.run(words, """
                many send 0 agreed = 1 .. 8
                visits 0 1 2 3 4 = 2 0 0 0 0; waiting 0 = 6
                send 0 agreed = 9; send 0 agreed = 10; send 0 agreed = FULL
                visits 0 1 2 3 4 = 2 0 0 0 0
                visits 0 1 2 3 4 = 2 0 0 0 0
                visits 0 1 2 3 4 = 2 0 0 0 0
                visits 0 1 2 3 4 = 2 0 0 0 0
                waiting 0 = 0
                whole log 4 = 2 4 6 8 10 12 14 16 18 20     # those that came first are first
                stamp 10 = 74
                """);
        sentences.run(words, """
                send 1 agreed = 1; visit 0 = 0; waiting 1 = 1; last 0 = 0       # only n's own queue
                """);
        sentences.run(words, """
                deafen 4 1 = true
                send 0 agreed = 1; send 0 agreed = 2
                visit 0 = 2
                visits 1 2 3 4 = 0 0 0 0; requests 0 = 1    # one after the other: it was deaf to one alone
                """);
    }

    private void markAndRequests() {
        String words = "3. n's mark becomes its reach, and all sequence numbers 1 .. LAST that n does not hold become "
                + "requests (if they are not yet);";
        sentences.run(words, """
                send 0 safe = 1
                visits 0 1 2 3 4 = 1 0 0 0 0; requests 0 = 0; line 4 = 1        # nothing is lacking
                """);
        sentences.run(words, """
                deafen 1 1 = true
                send 0 agreed = 1; send 0 agreed = 2
                visits 0 1 = 2 0; requests 0 = 1                                # it lacks the first
                """);
        sentences.run(words, """
                send 0 agreed = 1; visit 0 = 1
                deafen 2 1 = true; send 1 agreed = 2; visit 1 = 1
                visit 2 = 0; requests 0 = 1                                     # it lacks LAST
                visit 3 = 1; reach 2 = 2
                """);
        sentences.run(words, """
                deafen 1 4 = true; deafen 2 4 = true; deafen 3 4 = true; deafen 4 4 = true
                send 0 agreed = 1; send 0 agreed = 2
                visits 0 1 = 2 0; requests 0 = 2
                visits 2 3 4 = 0 0 0; requests 0 = 2                            # they are requests already
                """);
        sentences.run(words, """
                deafen 2 1 = true
                send 0 agreed = 1; send 0 agreed = 2; visit 0 = 2
                visits 1 2 3 4 = 0 0 1 0
                line 4 = 0                  # node 2 held the second alone: its mark is 0, not 2 and not 1
                visits 0 1 = 0 0; line 1 = 0
                visit 2 = 0; line 2 = 2     # only its next visit tells
                """);
        sentences.run(words, """
                send 0 agreed = 1; visits 0 1 2 3 4 = 1 0 0 0 0
                send 0 agreed = 2; send 0 agreed = 3
                visit 0 = 2; line 0 = 1     # the others' marks are 1 still
                visits 1 2 3 = 0 0 0; line 3 = 1
                visit 4 = 0; line 4 = 3
                """);
    }

    private void line() {
        String words = "4. n's line becomes the least of the marks of all members;";
        sentences.run(words, """
                send 0 agreed = 1
                visits 0 1 2 3 = 1 0 0 0; each line = 0 0 0 0 0
                visit 4 = 0; each line = 0 0 0 0 1                  # n's alone
                """);
        sentences.run(words, """
                send 0 agreed = 1; send 0 agreed = 2
                send 3 agreed = 3
                visits 0 1 2 3 = 2 0 0 1
                visit 4 = 0; line 4 = 2                             # the marks are 2 2 2 3 3
                visit 0 = 0; line 0 = 2
                visit 1 = 0; line 1 = 2
                visit 2 = 0; line 2 = 3
                """);
        sentences.run(words, """
                send 0 safe = 1
                visits 0 1 2 = 1 0 0
                crash 4 = true
                visit 3 = 0; line 3 = 0; token 3 = NONE             # node 4 is a member still, and its mark is 0
                whole log 3 = empty
                """);
        sentences.run(words, """
                send 0 agreed = 1; visits 0 1 2 3 4 = 1 0 0 0 0
                crash 4 = true
                visit 0 = 0; line 0 = 1                             # the mark of a member that is gone stays
                send 1 safe = 2
                visits 1 2 3 = 1 0 0; line 3 = 1
                """);
        sentences.run(words, """
                place 3 1 = true; place 4 1 = true; form 3
                send 3 safe = 1
                visits 3 4 = 1 0; line 4 = 1                        # those who are no members do not count
                whole log 4 = 2; whole log 3 = empty
                """);
        sentences.run(words, """
                place 0 1 = true; form 0
                send 0 safe = 1; visit 0 = 1; line 0 = 1            # the only member
                """);
    }

    private void deliveries() {
        String words = "5. every node that is up and in the ring, in the order of nodes, delivers what it can;";
        sentences.run(words, """
                send 0 agreed = 1; visit 0 = 1
                each delivered = 1 1 1 1 1
                """);
        sentences.run(words, """
                crash 2 = true; place 3 1 = true; form 3
                send 0 agreed = 1; visit 0 = 1
                each delivered = 1 1 0 0 1                          # down, and in another ring
                """);
        sentences.run(words, """
                deafen 4 1 = true
                send 0 agreed = 1; visits 0 1 2 3 4 = 1 0 0 0 0
                each delivered = 1 1 1 1 0
                visit 0 = 1; each delivered = 1 1 1 1 1             # also by what another node sends again
                """);
    }

    private void timer() {
        String words = "6. n's timer becomes 0;";
        sentences.run(words, """
                tick 0 = 0; tick 0 = 0; tick 0 = 0
                tick 1 = 0; tick 1 = 0; tick 1 = 0
                visit 0 = 0
                tick 0 = 0; tick 0 = 0; tick 0 = 0; ring 0 = 1
                tick 1 = 1                                          # another node's timer stays
                """);
        sentences.run(words, """
                tick 0 = 0; tick 0 = 0; tick 0 = 0
                visit 0 = 0; form 0; ring 0 = 2
                """);
    }

    private void strangers() {
        String words = "7. if there is a STRANGER, a node that is up in n's area but in another ring, the area is FORMED "
                + "ANEW.";
        sentences.run(words, """
                crash 4 = true; restart 4 = true
                each ring = 1 1 1 1 2
                visit 0 = 0
                each ring = 3 3 3 3 3; each members = 31 31 31 31 31
                each token = 0 0 0 0 0                              # at the least, not at the next
                """);
        sentences.run(words, """
                crash 0 = true; restart 0 = true
                visit 0 = 0; each ring = 3 3 3 3 3                  # the stranger's ring may be the greater one
                """);
        sentences.run(words, """
                crash 4 = true; place 4 1 = true; restart 4 = true
                visit 0 = 0; each ring = 1 1 1 1 2; token 0 = 1     # in another area
                place 4 0 = true
                visit 1 = 0; each ring = 3 3 3 3 3
                """);
        sentences.run(words, """
                place 4 1 = true; form 4; crash 4 = true; place 4 0 = true
                visit 0 = 0; each ring = 1 1 1 1 DOWN; token 0 = 1  # down
                """);
        sentences.run(words, """
                place 4 1 = true; form 4; ring 4 = 2
                place 3 1 = true                                    # a stranger for node 4, but not for node 0
                visit 0 = 0; each ring = 1 1 1 1 2; token 0 = 1
                visit 4 = 0; each ring = 1 1 1 3 3; token 0 = 1; members 3 = 24; token 4 = 3
                """);
    }

    private void nextMember() {
        String words = "Otherwise the token goes to the next member (the next greater number, after the greatest the "
                + "least; n itself if it is the only member):";
        sentences.run(words, """
                visit 0 = 0; token 0 = 1
                visit 1 = 0; token 0 = 2
                visit 2 = 0; token 0 = 3
                visit 3 = 0; token 0 = 4
                visit 4 = 0; token 0 = 0                            # after the greatest the least
                """);
        sentences.run(words, """
                place 0 1 = true; place 2 1 = true; place 4 1 = true; form 1
                members 1 = 10; token 1 = 1
                visit 1 = 0; token 1 = 3
                visit 3 = 0; token 1 = 1
                visit 3 = NONE; visit 1 = 0
                form 0; members 0 = 21
                visit 0 = 0; token 0 = 2
                visit 2 = 0; token 0 = 4
                visit 4 = 0; token 0 = 0
                """);
        sentences.run(words, """
                place 4 1 = true; form 4; members 4 = 16
                visit 4 = 0; token 4 = 4
                visit 4 = 0; token 4 = 4; ring 4 = 2
                crash 0 = true; place 0 2 = true; restart 0 = true
                visit 0 = 0; token 0 = 0; visit 0 = 0
                """);
    }

    private void lostToken() {
        String words = "if that is n or hears n, the token is at it; if not, the token is lost.";
        sentences.run(words, """
                crash 1 = true; visit 0 = 0                         # down
                each token = NONE DOWN NONE NONE NONE
                visit 2 = NONE; last 0 = NONE; requests 0 = NONE
                """);
        sentences.run(words, """
                place 1 2 = true; visit 0 = 0                       # in another area
                each token = NONE NONE NONE NONE NONE
                place 1 0 = true; token 0 = NONE                    # it does not come back with the node
                """);
        sentences.run(words, """
                place 1 2 = true; form 1; visit 0 = 0               # in another ring
                each token = NONE 1 NONE NONE NONE
                """);
        sentences.run(words, """
                crash 1 = true; place 1 2 = true; restart 1 = true; visit 0 = 0     # up again, in a ring of its own
                each token = NONE 1 NONE NONE NONE
                """);
        sentences.run(words, """
                place 1 2 = true; place 0 2 = true
                visit 0 = 0; token 0 = 1; visit 1 = 0               # elsewhere, but together
                token 0 = NONE
                """);
        sentences.run(words, """
                place 4 1 = true; visits 0 1 2 3 = 0 0 0 0
                token 0 = NONE                                      # only when it is to go to that member
                """);
        sentences.run(words, """
                visits 0 1 2 3 = 0 0 0 0; place 0 1 = true
                visit 4 = 0; token 4 = NONE                         # after the greatest the least, which does not hear
                """);
    }
}
