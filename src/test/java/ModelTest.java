import java.util.ArrayList;
import java.util.List;
import java.util.Random;

/** Runs of up to 512 calls, made from fixed seeds, on the class and on the model of the document. */
public final class ModelTest {
    private static final int RUNS = 4000;
    private static final int CALLS = 512;
    // What a run makes likely, in the order of play()'s numbers; queries fill the rest.
    private static final int[][] HABITS = {
        {14, 40, 4, 1, 2, 2, 6, 1},
        {10, 30, 14, 3, 4, 6, 4, 1},
        {20, 40, 2, 0, 0, 0, 10, 0},
        {8, 20, 10, 8, 10, 10, 3, 4},
    };

    private final RotatingTokenGroup group = new RotatingTokenGroup();
    private final Model model = new Model();
    private final List<String> calls = new ArrayList<>();
    private final Random random;
    private final int[] habit;

    private ModelTest(long seed) {
        random = new Random(seed);
        habit = HABITS[(int) (seed % HABITS.length)];
    }

    public static void main(String[] args) {
        int wrong = 0;
        for (long seed = 0; seed < RUNS && wrong < 3; seed++) {
            ModelTest run = new ModelTest(seed);
            if (!run.agrees()) {
                wrong++;
                System.out.println("seed " + seed + ", last calls of the run:");
                int from = Math.max(0, run.calls.size() - 60);
                System.out.println(String.join("\n", run.calls.subList(from, run.calls.size())));
            }
        }
        System.out.println(wrong == 0 ? RUNS + " runs agree with the model" : "runs disagree with the model");
        if (wrong != 0) {
            System.exit(1);
        }
    }

    private boolean agrees() {
        for (int k = 0; k < CALLS; k++) {
            int what = choose();
            int node = node();
            if (what == 1 && random.nextInt(10) < 9) {
                node = tokenHolder(node);
            }
            if (!play(what, node)) {
                return false;
            }
        }
        return true;
    }

    private int choose() {
        int point = random.nextInt(110);
        for (int what = 0; what < habit.length; what++) {
            point -= habit[what];
            if (point < 0) {
                return what;
            }
        }
        return habit.length + random.nextInt(11);
    }

    private int node() {
        return random.nextInt(60) == 0 ? random.nextInt(9) - 2 : random.nextInt(5);
    }

    private int tokenHolder(int node) {
        int at = model.token(node);
        return at >= 0 ? at : node;
    }

    private boolean play(int what, int node) {
        boolean safe = random.nextInt(3) == 0;
        int area = random.nextInt(40) == 0 ? random.nextInt(7) - 2 : random.nextInt(random.nextBoolean() ? 2 : 3);
        int deafness = random.nextInt(40) == 0 ? random.nextInt(60) - 20 : random.nextInt(5);
        int entry = random.nextInt(20) == 0 ? random.nextInt(60) - 5 : random.nextInt(Math.max(1, model.delivered(node)));
        int message = random.nextInt(20) == 0 ? random.nextInt(60) - 5 : 1 + random.nextInt(48);
        return switch (what) {
            case 0 -> same("send " + node + (safe ? " safe" : " agreed"), group.send(node, safe), model.send(node, safe));
            case 1 -> same("visit " + node, group.visit(node), model.visit(node));
            case 2 -> same("tick " + node, group.tick(node), model.tick(node));
            case 3 -> same("crash " + node, bit(group.crash(node)), bit(model.crash(node)));
            case 4 -> same("restart " + node, bit(group.restart(node)), bit(model.restart(node)));
            case 5 -> same("place " + node + " " + area, bit(group.place(node, area)), bit(model.place(node, area)));
            case 6 -> same("deafen " + node + " " + deafness,
                    bit(group.deafen(node, deafness)), bit(model.deafen(node, deafness)));
            case 7 -> same("drop " + node, bit(group.drop(node)), bit(model.drop(node)));
            case 8 -> same("log " + node + " " + entry, group.log(node, entry), model.log(node, entry));
            case 9 -> same("stamp " + message, group.stamp(message), model.stamp(message));
            default -> ask(what, node);
        };
    }

    private boolean ask(int what, int node) {
        return switch (what) {
            case 10 -> same("ring " + node, group.ring(node), model.ring(node));
            case 11 -> same("members " + node, group.members(node), model.members(node));
            case 12 -> same("token " + node, group.token(node), model.token(node));
            case 13 -> same("last " + node, group.last(node), model.last(node));
            case 14 -> same("requests " + node, group.requests(node), model.requests(node));
            case 15 -> same("reach " + node, group.reach(node), model.reach(node));
            case 16 -> same("line " + node, group.line(node), model.line(node));
            case 17 -> same("waiting " + node, group.waiting(node), model.waiting(node));
            default -> same("delivered " + node, group.delivered(node), model.delivered(node));
        };
    }

    private static int bit(boolean answer) {
        return answer ? 1 : 0;
    }

    private boolean same(String call, int got, int due) {
        calls.add(call + " = " + got + (got == due ? "" : ", the model says " + due));
        return got == due;
    }
}
