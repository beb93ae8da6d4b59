import java.util.ArrayDeque;
import java.util.ArrayList;
import java.util.Deque;
import java.util.HashMap;
import java.util.List;
import java.util.Map;
import java.util.TreeSet;

/** The document once more, word by word and with the Java library's sets, to compare the class with. */
final class Model {
    private static final int NONE = -1;
    private static final int DOWN = -2;
    private static final int BAD = -3;
    private static final int FULL = -4;

    private static final class Message {
        int number;
        int origin;
        boolean safe;
        int stamp = 0;
    }

    private static final class Ring {
        int number;
        final TreeSet<Integer> members = new TreeSet<>();
        Integer at = null;
        int last = 0;
        final Map<Integer, Integer> marks = new HashMap<>();
        final TreeSet<Integer> requests = new TreeSet<>();
        final Map<Integer, Message> numbered = new HashMap<>();
    }

    private static final class Node {
        boolean up = true;
        int area = 0;
        Ring ring = null;
        TreeSet<Integer> held = new TreeSet<>();
        int line = 0;
        int place = 0;
        int deafness = 0;
        int timer = 0;
        final Deque<Message> queue = new ArrayDeque<>();
        final List<Integer> log = new ArrayList<>();
    }

    private final List<Node> nodes = new ArrayList<>();
    private final List<Message> messages = new ArrayList<>();
    private int rings = 0;

    Model() {
        Ring first = new Ring();
        first.number = ++rings;
        first.at = 0;
        for (int n = 0; n < 5; n++) {
            Node node = new Node();
            node.ring = first;
            first.members.add(n);
            nodes.add(node);
        }
    }

    private static boolean bad(int node) {
        return node < 0 || node > 4;
    }

    private boolean hears(int a, int b) {
        Node x = nodes.get(a);
        Node y = nodes.get(b);
        return x.up && y.up && x.area == y.area && x.ring == y.ring;
    }

    private static int reachOf(Node node) {
        int a = 0;
        while (node.held.contains(a + 1)) {
            a++;
        }
        return a;
    }

    private void broadcast(int n, int sequence) {
        nodes.get(n).held.add(sequence);
        for (int other = 0; other < 5; other++) {
            if (other != n && hears(other, n)) {
                Node hearer = nodes.get(other);
                if (hearer.deafness > 0) {
                    hearer.deafness--;
                } else {
                    hearer.held.add(sequence);
                }
            }
        }
    }

    private static void deliverWhatItCan(Node node) {
        while (node.held.contains(node.place + 1)) {
            Message next = node.ring.numbered.get(node.place + 1);
            if (next.safe && node.place + 1 > node.line) {
                break;
            }
            node.log.add(2 * next.number);
            node.place++;
        }
    }

    int send(int node, boolean safe) {
        if (bad(node)) return BAD;
        Node n = nodes.get(node);
        if (!n.up) return DOWN;
        if (messages.size() == 48 || n.queue.size() == 8) return FULL;
        Message m = new Message();
        m.origin = node;
        m.safe = safe;
        messages.add(m);
        m.number = messages.size();
        n.queue.addLast(m);
        return m.number;
    }

    int visit(int node) {
        if (bad(node)) return BAD;
        Node n = nodes.get(node);
        if (!n.up) return DOWN;
        Ring ring = n.ring;
        if (ring.at == null || ring.at != node) return NONE;
        int made = 0;
        for (int request : new ArrayList<>(ring.requests)) {
            if (n.held.contains(request)) {
                ring.requests.remove(request);
                broadcast(node, request);
                made++;
            }
        }
        for (int k = 0; k < 2 && !n.queue.isEmpty(); k++) {
            Message m = n.queue.removeFirst();
            ring.last++;
            ring.numbered.put(ring.last, m);
            m.stamp = ring.last + 64 * ring.number;
            broadcast(node, ring.last);
            made++;
        }
        ring.marks.put(node, reachOf(n));
        for (int s = 1; s <= ring.last; s++) {
            if (!n.held.contains(s)) {
                ring.requests.add(s);
            }
        }
        int least = Integer.MAX_VALUE;
        for (int member : ring.members) {
            least = Math.min(least, ring.marks.getOrDefault(member, 0));
        }
        n.line = least;
        for (Node each : nodes) {
            if (each.up && each.ring == ring) {
                deliverWhatItCan(each);
            }
        }
        n.timer = 0;
        if (stranger(n)) {
            form(n.area);
        } else {
            Integer next = ring.members.higher(node);
            if (next == null) {
                next = ring.members.first();
            }
            ring.at = next == node || hears(next, node) ? next : null;
        }
        return made;
    }

    private boolean stranger(Node n) {
        return nodes.stream().anyMatch(other -> other.up && other.area == n.area && other.ring != n.ring);
    }

    private void form(int area) {
        TreeSet<Integer> members = new TreeSet<>();
        Map<Ring, TreeSet<Integer>> companions = new HashMap<>();
        for (int n = 0; n < 5; n++) {
            Node node = nodes.get(n);
            if (node.up && node.area == area) {
                members.add(n);
                companions.computeIfAbsent(node.ring, r -> new TreeSet<>()).add(n);
            }
        }
        for (Map.Entry<Ring, TreeSet<Integer>> old : companions.entrySet()) {
            goOut(old.getKey(), old.getValue());
        }
        Ring ring = new Ring();
        ring.number = ++rings;
        ring.members.addAll(members);
        ring.at = members.first();
        for (int n : members) {
            enter(n, ring);
        }
    }

    private void goOut(Ring old, TreeSet<Integer> companions) {
        TreeSet<Integer> all = new TreeSet<>();
        int line = 0;
        for (int n : companions) {
            all.addAll(nodes.get(n).held);
            line = Math.max(line, nodes.get(n).line);
        }
        for (int n : companions) {
            Node node = nodes.get(n);
            node.held = new TreeSet<>(all);
            node.line = line;
            deliverWhatItCan(node);
        }
        int greatest = all.isEmpty() ? 0 : all.last();
        for (int n : companions) {
            Node node = nodes.get(n);
            boolean skipped = false;
            for (int s = node.place + 1; s <= greatest; s++) {
                if (!all.contains(s)) {
                    skipped = true;
                    continue;
                }
                Message m = old.numbered.get(s);
                if (!skipped || companions.contains(m.origin)) {
                    node.log.add(2 * m.number + 1);
                }
            }
        }
    }

    private void enter(int n, Ring ring) {
        Node node = nodes.get(n);
        if (node.ring != null && node.ring.at != null && node.ring.at == n) {
            node.ring.at = null;
        }
        node.ring = ring;
        node.held = new TreeSet<>();
        node.line = 0;
        node.place = 0;
        node.timer = 0;
    }

    int tick(int node) {
        if (bad(node)) return BAD;
        Node n = nodes.get(node);
        if (!n.up) return DOWN;
        n.timer++;
        if (n.timer == 4) {
            form(n.area);
            return 1;
        }
        return 0;
    }

    boolean crash(int node) {
        if (bad(node) || !nodes.get(node).up) return false;
        Node n = nodes.get(node);
        n.up = false;
        enter(node, null);
        n.queue.clear();
        n.deafness = 0;
        return true;
    }

    boolean restart(int node) {
        if (bad(node) || nodes.get(node).up) return false;
        Ring ring = new Ring();
        ring.number = ++rings;
        ring.members.add(node);
        ring.at = node;
        nodes.get(node).up = true;
        enter(node, ring);
        return true;
    }

    boolean place(int node, int area) {
        if (bad(node) || area < 0 || area > 2) return false;
        nodes.get(node).area = area;
        return true;
    }

    boolean deafen(int node, int n) {
        if (bad(node) || !nodes.get(node).up || n < 0 || n > 20) return false;
        nodes.get(node).deafness = n;
        return true;
    }

    boolean drop(int node) {
        if (bad(node) || !nodes.get(node).up || nodes.get(node).ring.at == null) return false;
        nodes.get(node).ring.at = null;
        return true;
    }

    int ring(int node) {
        return refused(node) != 0 ? refused(node) : nodes.get(node).ring.number;
    }

    int members(int node) {
        return refused(node) != 0 ? refused(node)
                : nodes.get(node).ring.members.stream().mapToInt(m -> 1 << m).sum();
    }

    int token(int node) {
        return refusedOrLost(node) != 0 ? refusedOrLost(node) : nodes.get(node).ring.at;
    }

    int last(int node) {
        return refusedOrLost(node) != 0 ? refusedOrLost(node) : nodes.get(node).ring.last;
    }

    int requests(int node) {
        return refusedOrLost(node) != 0 ? refusedOrLost(node) : nodes.get(node).ring.requests.size();
    }

    int reach(int node) {
        return refused(node) != 0 ? refused(node) : reachOf(nodes.get(node));
    }

    int line(int node) {
        return refused(node) != 0 ? refused(node) : nodes.get(node).line;
    }

    int waiting(int node) {
        return refused(node) != 0 ? refused(node) : nodes.get(node).queue.size();
    }

    int delivered(int node) {
        return bad(node) ? BAD : nodes.get(node).log.size();
    }

    int log(int node, int k) {
        return bad(node) || k < 0 || k >= nodes.get(node).log.size() ? BAD : nodes.get(node).log.get(k);
    }

    int stamp(int message) {
        return message < 1 || message > messages.size() ? BAD : messages.get(message - 1).stamp;
    }

    private int refused(int node) {
        return bad(node) ? BAD : nodes.get(node).up ? 0 : DOWN;
    }

    private int refusedOrLost(int node) {
        return refused(node) != 0 ? refused(node) : nodes.get(node).ring.at == null ? NONE : 0;
    }
}
