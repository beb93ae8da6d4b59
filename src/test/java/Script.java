import java.util.ArrayList;
import java.util.List;

/**
 * Runs of calls on fresh objects, written as text: "name arguments = the answer that is due", one call a line or
 * several behind ';'. A boolean answer is 'true' or 'false'; NONE, DOWN, BAD and FULL stand for the codes; '#' begins
 * a remark. Short forms for several calls:
 * <pre>
 *   form 4                     four ticks of node 4, the last of which forms its area anew
 *   visits 0 1 2 = 2 0 1       a visit at each of the nodes
 *   each reach = 1 1 0 DOWN 0  a query at each of the nodes 0 .. 4
 *   whole log 3 = 2 5          node 3's log from end to end ('empty' if there is nothing)
 *   many send 2 safe = 1 .. 8  the same call again and again, with the answers 1, 2, .. 8
 * </pre>
 */
final class Script {
    private static final int MOST_CALLS = 512;

    private int wrong = 0;
    private int calls = 0;

    void run(String title, String text) {
        RotatingTokenGroup group = new RotatingTokenGroup();
        List<String> lines = calls(text);
        for (String line : lines) {
            check(title, group, line);
        }
        if (lines.isEmpty() || lines.size() > MOST_CALLS) {
            fault(title + ": a run of " + lines.size() + " calls tells nothing");
        }
    }

    void fault(String text) {
        wrong++;
        System.out.println(text);
    }

    void end() {
        System.out.println(calls + " calls, " + wrong + " faults");
        if (wrong != 0 || calls == 0) {
            System.exit(1);
        }
    }

    private void check(String title, RotatingTokenGroup group, String line) {
        String[] halves = line.split("=");
        String call = halves[0].trim();
        String due = plain(halves[1].trim());
        String got = answerOrFailure(group, call);
        calls++;
        if (!got.equals(due)) {
            fault(title + ": " + call + " answered " + got + ", due is " + due);
        }
    }

    private static String answerOrFailure(RotatingTokenGroup group, String call) {
        try {
            return answer(group, call);
        } catch (IndexOutOfBoundsException | NullPointerException | ArithmeticException failure) {
            return failure.toString();
        }
    }

    /** The calls of a text, one by one, short forms written out. */
    static List<String> calls(String text) {
        List<String> found = new ArrayList<>();
        for (String line : text.split("\n")) {
            for (String part : line.split("#", 2)[0].split(";")) {
                if (!part.isBlank()) {
                    writeOut(part.trim(), found);
                }
            }
        }
        return found;
    }

    private static void writeOut(String line, List<String> found) {
        String[] halves = line.split(" *= *");
        String[] left = halves[0].split(" +");
        String[] right = halves.length > 1 ? halves[1].split(" +") : new String[0];
        switch (left[0]) {
            case "form" -> {
                for (int k = 1; k <= 4; k++) {
                    found.add("tick " + left[1] + " = " + k / 4);
                }
            }
            case "visits" -> {
                same(left.length - 1, right.length, line);
                for (int k = 0; k < right.length; k++) {
                    found.add("visit " + left[k + 1] + " = " + right[k]);
                }
            }
            case "each" -> {
                same(5, right.length, line);
                for (int n = 0; n < 5; n++) {
                    found.add(left[1] + " " + n + " = " + right[n]);
                }
            }
            case "whole" -> writeOutLog(left[2], right, found);
            case "many" -> {
                for (int k = Integer.parseInt(right[0]); k <= Integer.parseInt(right[2]); k++) {
                    found.add(halves[0].substring("many ".length()) + " = " + k);
                }
            }
            default -> found.add(line);
        }
    }

    private static void writeOutLog(String node, String[] due, List<String> found) {
        int size = due[0].equals("empty") ? 0 : due.length;
        found.add("delivered " + node + " = " + size);
        for (int k = 0; k < size; k++) {
            found.add("log " + node + " " + k + " = " + due[k]);
        }
        found.add("log " + node + " " + size + " = BAD");
    }

    private static void same(int calls, int answers, String line) {
        if (calls != answers) {
            throw new IllegalArgumentException("as many answers as calls: " + line);
        }
    }

    private static String plain(String due) {
        return switch (due) {
            case "NONE" -> "-1";
            case "DOWN" -> "-2";
            case "BAD" -> "-3";
            case "FULL" -> "-4";
            default -> due;
        };
    }

    static String answer(RotatingTokenGroup group, String call) {
        String[] words = call.split(" +");
        List<Integer> numbers = new ArrayList<>();
        for (int k = 1; k < words.length; k++) {
            numbers.add(number(words[k]));
        }
        int a = numbers.get(0);
        int b = numbers.size() > 1 ? numbers.get(1) : 0;
        return switch (words[0]) {
            case "send" -> "" + group.send(a, b != 0);
            case "visit" -> "" + group.visit(a);
            case "tick" -> "" + group.tick(a);
            case "crash" -> "" + group.crash(a);
            case "restart" -> "" + group.restart(a);
            case "place" -> "" + group.place(a, b);
            case "deafen" -> "" + group.deafen(a, b);
            case "drop" -> "" + group.drop(a);
            case "log" -> "" + group.log(a, b);
            case "stamp" -> "" + group.stamp(a);
            default -> "" + query(group, words[0], a);
        };
    }

    private static int query(RotatingTokenGroup group, String name, int a) {
        return switch (name) {
            case "ring" -> group.ring(a);
            case "members" -> group.members(a);
            case "token" -> group.token(a);
            case "last" -> group.last(a);
            case "requests" -> group.requests(a);
            case "reach" -> group.reach(a);
            case "line" -> group.line(a);
            case "waiting" -> group.waiting(a);
            case "delivered" -> group.delivered(a);
            default -> throw new IllegalArgumentException("no such call: " + name);
        };
    }

    private static int number(String word) {
        return switch (word) {
            case "agreed" -> 0;
            case "safe" -> 1;
            case "MIN" -> Integer.MIN_VALUE;
            case "MAX" -> Integer.MAX_VALUE;
            default -> Integer.parseInt(word);
        };
    }
}
