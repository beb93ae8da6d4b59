import java.util.ArrayList;
import java.util.List;
import java.util.Map;
import java.util.Set;
import java.util.TreeMap;
import java.util.TreeSet;

/**
 * A call that is refused changes nothing, and neither does one that only answers: in each of some states, an object that
 * had such a call goes on as its twin does that had not.
 */
public final class RefusedCallsTest {
    private static final int MOST_CALLS = 512;
    private static final List<String> REFUSING = List.of("send", "visit", "tick", "crash", "restart", "place", "deafen",
            "drop");
    private static final List<String> QUERIES = List.of("ring", "members", "token", "last", "requests", "reach", "line",
            "waiting", "delivered", "log", "stamp");
    private static final String[] NUMBERS = {"-1", "0", "1", "2", "3", "4", "5", "20", "21", "48", "49", "MIN", "MAX"};
    private static final String[] NODES = {"-1", "0", "1", "2", "3", "4", "5", "MIN", "MAX"};

    // Deafness, timers, requests, marks and queues of several kinds; node 1 is down.
    private static final String BUSY = """
            send 0 safe = 1; send 0 agreed = 2; send 0 agreed = 3; send 2 safe = 4; many send 3 agreed = 5 .. 12
            deafen 1 2 = true; deafen 4 1 = true
            visits 0 1 = 2 0; requests 0 = 2
            deafen 3 3 = true; deafen 0 1 = true
            tick 0 = 0; tick 0 = 0; tick 0 = 0; tick 2 = 0; tick 3 = 0; tick 3 = 0; tick 4 = 0; tick 4 = 0; tick 4 = 0
            crash 1 = true; place 1 2 = true
            """;
    // Node 4 is down, nodes 0 and 3 have rings of their own, nodes 1 and 2 one that has lost its token.
    private static final String APART = """
            send 0 safe = 1; send 1 agreed = 2; visits 0 1 = 1 1
            place 3 1 = true; form 3; deafen 3 5 = true
            crash 4 = true; place 4 1 = true
            place 0 2 = true; form 0; send 0 agreed = 3; visit 0 = 1; tick 0 = 0; tick 0 = 0
            send 1 safe = 4; drop 1 = true; deafen 2 3 = true; tick 2 = 0; tick 2 = 0; tick 2 = 0
            """;
    // The marks are 1, that of node 4, which is down, for good.
    private static final String MARKED = """
            send 0 safe = 1; visits 0 1 2 3 4 = 1 0 0 0 0
            crash 4 = true; send 0 safe = 2; send 1 agreed = 3; deafen 2 1 = true
            """;
    // Only node 0 held the first, and is down; node 1, which sent the second, is elsewhere; the third is of node 2.
    private static final String LACKING = """
            send 0 agreed = 1; send 1 agreed = 2; send 2 agreed = 3
            deafen 1 1 = true; deafen 2 1 = true; deafen 3 1 = true; deafen 4 1 = true
            visits 0 1 2 = 1 1 1
            crash 0 = true; place 1 1 = true; many send 4 agreed = 4 .. 11
            """;
    private static final List<String> STATES = List.of("", BUSY, BUSY + "drop 0 = true", APART, MARKED, LACKING,
            TermsBoundaries.numberAll(40) + "many send 1 safe = 41 .. 48; tick 1 = 0; tick 1 = 0; deafen 2 4 = true",
            "crash 0 = true; crash 1 = true; crash 2 = true; crash 3 = true; crash 4 = true; place 3 2 = true");

    private final Set<String> refused = new TreeSet<>();
    private int compared = 0;
    private int wrong = 0;

    public static void main(String[] args) {
        RefusedCallsTest test = new RefusedCallsTest();
        List<List<String>> probes = probes();
        Script told = new Script();
        for (String state : STATES) {
            // A new object is a state too, and a run needs a call.
            told.run("a state", state + "\nring 5 = BAD");
            test.tryIn(bare(state), probes);
        }
        told.end();
        test.end();
    }

    private void end() {
        Set<String> all = new TreeSet<>(REFUSING);
        all.addAll(QUERIES);
        if (!refused.equals(all)) {
            wrong++;
            System.out.println("only these were ever refused: " + refused);
        }
        System.out.println(compared + " runs compared with their twins, " + wrong + " faults");
        if (wrong != 0) {
            System.exit(1);
        }
    }

    private void tryIn(List<String> state, List<List<String>> probes) {
        List<List<String>> due = new ArrayList<>();
        for (List<String> probe : probes) {
            RotatingTokenGroup twin = made(state);
            due.add(answers(twin, probe));
        }
        for (String call : candidates()) {
            String answer = Script.answer(made(state), call);
            String name = call.split(" ")[0];
            boolean isRefused = answer.startsWith("-") || answer.equals("false");
            if (isRefused) {
                refused.add(name);
            }
            if (isRefused || QUERIES.contains(name)) {
                compare(state, call, probes, due);
            }
        }
    }

    private void compare(List<String> state, String call, List<List<String>> probes, List<List<String>> due) {
        for (int p = 0; p < probes.size(); p++) {
            List<String> probe = probes.get(p);
            if (state.size() + 1 + probe.size() > MOST_CALLS) {
                throw new IllegalStateException("too many calls for one object");
            }
            RotatingTokenGroup group = made(state);
            Script.answer(group, call);
            List<String> got = answers(group, probe);
            compared++;
            for (int k = 0; k < got.size(); k++) {
                if (!got.get(k).equals(due.get(p).get(k))) {
                    wrong++;
                    System.out.println("after " + state + " the call " + call + " changed something: then " + probe.get(k)
                            + " answered " + got.get(k) + ", without it " + due.get(p).get(k));
                    break;
                }
            }
        }
    }

    private static RotatingTokenGroup made(List<String> state) {
        RotatingTokenGroup group = new RotatingTokenGroup();
        answers(group, state);
        return group;
    }

    private static List<String> answers(RotatingTokenGroup group, List<String> calls) {
        List<String> found = new ArrayList<>();
        for (String call : calls) {
            found.add(Script.answer(group, call));
        }
        return found;
    }

    /** A text's calls without the answers. */
    private static List<String> bare(String text) {
        return Script.calls(text).stream().map(line -> line.split(" =")[0]).toList();
    }

    private static List<String> candidates() {
        Map<String, String[]> seconds = new TreeMap<>();
        seconds.put("send", new String[] {"agreed", "safe"});
        seconds.put("place", NUMBERS);
        seconds.put("deafen", NUMBERS);
        seconds.put("log", NUMBERS);
        List<String> found = new ArrayList<>();
        Set<String> names = new TreeSet<>(REFUSING);
        names.addAll(QUERIES);
        for (String name : names) {
            for (String first : name.equals("stamp") ? NUMBERS : NODES) {
                for (String second : seconds.getOrDefault(name, new String[] {""})) {
                    found.add((name + " " + first + " " + second).strip());
                }
            }
        }
        return found;
    }

    /** Ways to go on, which show what no query tells: deafness, timers, marks, places, areas, what waits. */
    private static List<List<String>> probes() {
        String visits = "visit 0; visit 1; visit 2; visit 3; visit 4\n";
        String restarts = "restart 0; restart 1; restart 2; restart 3; restart 4\n";
        String ends = "ask\n";
        List<String> texts = new ArrayList<>(List.of(
                ends,
                visits + ends,
                visits.repeat(9) + ends,
                restarts + visits.repeat(3) + ends,
                "crash 0; crash 1; crash 2; crash 3; crash 4\n" + restarts + "tick 0; tick 0; tick 0; tick 0\n" + ends,
                "drop 0; drop 1; drop 2; drop 3; drop 4\n" + ends));
        for (int n = 0; n < 5; n++) {
            texts.add(("tick " + n + "\n").repeat(4) + restarts + ends);
            texts.add(("send " + n + " safe\n").repeat(9) + visits.repeat(2) + ends);
        }
        List<List<String>> found = new ArrayList<>();
        for (String text : texts) {
            found.add(bare(text.replace("ask\n", everyQuery())));
        }
        return found;
    }

    private static String everyQuery() {
        StringBuilder text = new StringBuilder();
        for (int n = 0; n < 5; n++) {
            for (String name : QUERIES) {
                if (!name.equals("log") && !name.equals("stamp")) {
                    text.append(name).append(' ').append(n).append('\n');
                }
            }
            // The states and probes end with few entries or with nearly all of them.
            for (int k = 0; k < 48; k = k == 12 ? 40 : k + 1) {
                text.append("log ").append(n).append(' ').append(k).append('\n');
            }
        }
        for (int message = 1; message <= 48; message++) {
            text.append("stamp ").append(message).append('\n');
        }
        return text.toString();
    }
}
