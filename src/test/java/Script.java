import java.util.ArrayList;
import java.util.List;

/**
 * Runs of calls on fresh objects, written as text: one call a line, "name arguments = the answer that is due".
 * A boolean answer is 'true' or 'false'; NONE, DOWN, BAD and FULL stand for the codes; '#' begins a remark.
 */
final class Script {
    private int wrong = 0;
    private int calls = 0;

    void run(String title, String text) {
        RotatingTokenGroup group = new RotatingTokenGroup();
        for (String line : text.split("\n")) {
            String call = line.split("#", 2)[0].trim();
            if (!call.isEmpty()) {
                check(title, group, call);
            }
        }
    }

    void end() {
        System.out.println(calls + " calls, " + wrong + " answers not as due");
        if (wrong != 0 || calls == 0) {
            System.exit(1);
        }
    }

    private void check(String title, RotatingTokenGroup group, String line) {
        String[] halves = line.split("=");
        String call = halves[0].trim();
        String due = plain(halves[1].trim());
        String got = answer(group, call);
        calls++;
        if (!got.equals(due)) {
            wrong++;
            System.out.println(title + ": " + call + " answered " + got + ", due is " + due);
        }
    }

    private static String plain(String due) {
        return switch (due) {
            case "NONE" -> "-1";
            case "DOWN" -> "-2";
            case "BAD" -> "-3";
            case "FULL" -> "-4";
            default -> due;
        };
    }

    static String answer(RotatingTokenGroup group, String call) {
        String[] words = call.split(" +");
        List<Integer> numbers = new ArrayList<>();
        for (int k = 1; k < words.length; k++) {
            numbers.add(number(words[k]));
        }
        int a = numbers.get(0);
        int b = numbers.size() > 1 ? numbers.get(1) : 0;
        return switch (words[0]) {
            case "send" -> "" + group.send(a, b != 0);
            case "visit" -> "" + group.visit(a);
            case "tick" -> "" + group.tick(a);
            case "crash" -> "" + group.crash(a);
            case "restart" -> "" + group.restart(a);
            case "place" -> "" + group.place(a, b);
            case "deafen" -> "" + group.deafen(a, b);
            case "drop" -> "" + group.drop(a);
            case "log" -> "" + group.log(a, b);
            case "stamp" -> "" + group.stamp(a);
            default -> "" + query(group, words[0], a);
        };
    }

    private static int query(RotatingTokenGroup group, String name, int a) {
        return switch (name) {
            case "ring" -> group.ring(a);
            case "members" -> group.members(a);
            case "token" -> group.token(a);
            case "last" -> group.last(a);
            case "requests" -> group.requests(a);
            case "reach" -> group.reach(a);
            case "line" -> group.line(a);
            case "waiting" -> group.waiting(a);
            case "delivered" -> group.delivered(a);
            default -> throw new IllegalArgumentException("no such call: " + name);
        };
    }

    private static int number(String word) {
        return switch (word) {
            case "agreed" -> 0;
            case "safe" -> 1;
            case "MIN" -> Integer.MIN_VALUE;
            case "MAX" -> Integer.MAX_VALUE;
            default -> Integer.parseInt(word);
        };
    }
}
