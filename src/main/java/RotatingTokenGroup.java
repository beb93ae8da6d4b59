/** Five nodes that broadcast messages in rings; a token that goes round in each ring orders them. */
public final class RotatingTokenGroup {
    public static final int NONE = -1;
    public static final int DOWN_NODE = -2;
    public static final int BAD = -3;
    public static final int FULL = -4;

    private static final int NODES = 5;
    private static final int ALL_NODES = 31;
    private static final int AREAS = 3;
    private static final int MOST_MESSAGES = 48;
    private static final int MOST_WAITING = 8;
    private static final int MOST_DEAFNESS = 20;
    private static final int NEW_MESSAGES_A_VISIT = 2;
    private static final int TICKS_TO_FORM = 4;
    private static final int STAMP_FACTOR = 64;

    private final Node[] nodes;
    // One more than there are nodes, so that a new ring finds a place while every node is still in its old one.
    private final Ring[] rings;
    private final Messages messages;
    private int greatestRing;

    public RotatingTokenGroup() {
        nodes = new Node[NODES];
        for (int n = 0; n < NODES; n++) {
            nodes[n] = new Node(n);
        }
        rings = new Ring[NODES + 1];
        for (int r = 0; r <= NODES; r++) {
            rings[r] = new Ring();
        }
        messages = new Messages();
        greatestRing = 0;
        enterNewRing(ALL_NODES);
    }

    public int send(int node, boolean safe) {
        if (!isNode(node)) {
            return BAD;
        }
        Node origin = nodes[node];
        if (!origin.isUp()) {
            return DOWN_NODE;
        }
        if (messages.taken >= MOST_MESSAGES || origin.queued >= MOST_WAITING) {
            return FULL;
        }
        int message = messages.take(node, safe);
        origin.enqueue(message);
        return message;
    }

    public int visit(int node) {
        if (!isNode(node)) {
            return BAD;
        }
        Node holder = nodes[node];
        Ring ring = holder.ring;
        if (ring == null) {
            return DOWN_NODE;
        }
        if (ring.tokenAt != node) {
            return NONE;
        }
        int again = broadcastRequests(holder, ring);
        int fresh = broadcastNew(holder, ring);
        ring.markAndRequest(holder);
        holder.line = ring.leastMark();
        deliverInRing(ring);
        holder.timer = 0;
        if (hasStranger(holder)) {
            formAnew(holder.area);
        } else {
            passToken(holder, ring);
        }
        return again + fresh;
    }

    public int tick(int node) {
        if (!isNode(node)) {
            return BAD;
        }
        Node ticked = nodes[node];
        if (!ticked.isUp()) {
            return DOWN_NODE;
        }
        ticked.timer++;
        if (ticked.timer < TICKS_TO_FORM) {
            return 0;
        }
        formAnew(ticked.area);
        return 1;
    }

    public boolean crash(int node) {
        if (!isUpNode(node)) {
            return false;
        }
        nodes[node].goDown();
        return true;
    }

    public boolean restart(int node) {
        if (!isNode(node) || nodes[node].isUp()) {
            return false;
        }
        enterNewRing(1 << node);
        return true;
    }

    public boolean place(int node, int area) {
        if (!isNode(node) || area < 0 || area >= AREAS) {
            return false;
        }
        nodes[node].area = area;
        return true;
    }

    public boolean deafen(int node, int n) {
        if (!isUpNode(node) || n < 0 || n > MOST_DEAFNESS) {
            return false;
        }
        nodes[node].deafness = n;
        return true;
    }

    public boolean drop(int node) {
        if (!isNode(node)) {
            return false;
        }
        Ring ring = nodes[node].ring;
        if (ring == null || ring.isTokenLost()) {
            return false;
        }
        ring.tokenAt = NONE;
        return true;
    }

    public int ring(int node) {
        if (!isNode(node)) {
            return BAD;
        }
        Ring ring = nodes[node].ring;
        return ring == null ? DOWN_NODE : ring.number;
    }

    public int members(int node) {
        if (!isNode(node)) {
            return BAD;
        }
        Ring ring = nodes[node].ring;
        return ring == null ? DOWN_NODE : ring.members;
    }

    public int token(int node) {
        if (!isNode(node)) {
            return BAD;
        }
        Ring ring = nodes[node].ring;
        if (ring == null) {
            return DOWN_NODE;
        }
        return ring.isTokenLost() ? NONE : ring.tokenAt;
    }

    public int last(int node) {
        if (!isNode(node)) {
            return BAD;
        }
        Ring ring = nodes[node].ring;
        if (ring == null) {
            return DOWN_NODE;
        }
        return ring.isTokenLost() ? NONE : ring.last;
    }

    public int requests(int node) {
        if (!isNode(node)) {
            return BAD;
        }
        Ring ring = nodes[node].ring;
        if (ring == null) {
            return DOWN_NODE;
        }
        return ring.isTokenLost() ? NONE : Long.bitCount(ring.requests);
    }

    public int reach(int node) {
        if (!isNode(node)) {
            return BAD;
        }
        Node asked = nodes[node];
        return asked.isUp() ? asked.heldWithoutGap() : DOWN_NODE;
    }

    public int line(int node) {
        if (!isNode(node)) {
            return BAD;
        }
        Node asked = nodes[node];
        return asked.isUp() ? asked.line : DOWN_NODE;
    }

    public int waiting(int node) {
        if (!isNode(node)) {
            return BAD;
        }
        Node asked = nodes[node];
        return asked.isUp() ? asked.queued : DOWN_NODE;
    }

    public int delivered(int node) {
        return isNode(node) ? nodes[node].logged : BAD;
    }

    public int log(int node, int k) {
        if (!isNode(node)) {
            return BAD;
        }
        Node asked = nodes[node];
        if (k < 0 || k >= asked.logged) {
            return BAD;
        }
        return asked.entries[k];
    }

    public int stamp(int message) {
        if (message < 1 || message > messages.taken) {
            return BAD;
        }
        return messages.stamps[message];
    }

    private static boolean isNode(int node) {
        return node >= 0 && node < NODES;
    }

    private boolean isUpNode(int node) {
        return isNode(node) && nodes[node].isUp();
    }

    private static boolean isIn(int set, int node) {
        return (set & (1 << node)) != 0;
    }

    private static boolean hearEachOther(Node one, Node other) {
        return one.isUp() && one.ring == other.ring && one.area == other.area;
    }

    private int broadcastRequests(Node holder, Ring ring) {
        int made = 0;
        for (int sequence = 1; sequence <= MOST_MESSAGES; sequence++) {
            if (ring.isRequested(sequence) && holder.holds(sequence)) {
                ring.takeOffRequest(sequence);
                broadcast(holder, sequence);
                made++;
            }
        }
        return made;
    }

    private int broadcastNew(Node holder, Ring ring) {
        int made = 0;
        while (made < NEW_MESSAGES_A_VISIT && holder.queued > 0 && ring.last < MOST_MESSAGES) {
            int message = holder.dequeue();
            ring.last++;
            ring.messageAt[ring.last] = message;
            messages.stamps[message] = STAMP_FACTOR * ring.number + ring.last;
            broadcast(holder, ring.last);
            made++;
        }
        return made;
    }

    private void broadcast(Node sender, int sequence) {
        sender.hold(sequence);
        for (Node other : nodes) {
            if (other != sender && hearEachOther(sender, other)) {
                other.receive(sequence);
            }
        }
    }

    private void deliverInRing(Ring ring) {
        for (Node node : nodes) {
            if (node.ring == ring) {
                deliverRegular(node, ring);
            }
        }
    }

    private void deliverRegular(Node node, Ring ring) {
        for (int sequence = node.place + 1; sequence <= MOST_MESSAGES; sequence++) {
            if (!isDeliverable(node, ring, sequence)) {
                return;
            }
            node.append(2 * ring.messageAt[sequence]);
            node.place = sequence;
        }
    }

    private boolean isDeliverable(Node node, Ring ring, int sequence) {
        return node.holds(sequence)
                && (sequence <= node.line || !messages.safe[ring.messageAt[sequence]]);
    }

    private boolean hasStranger(Node node) {
        for (Node other : nodes) {
            if (other.isUp() && other.area == node.area && other.ring != node.ring) {
                return true;
            }
        }
        return false;
    }

    private void passToken(Node holder, Ring ring) {
        int next = ring.memberAfter(holder.number);
        ring.tokenAt = hearEachOther(holder, nodes[next]) ? next : NONE;
    }

    private void formAnew(int area) {
        int members = upNodesIn(area);
        for (Ring old : rings) {
            int companions = nodesOf(old) & members;
            if (companions != 0) {
                deliverLeftOver(old, companions);
            }
        }
        enterNewRing(members);
    }

    private void deliverLeftOver(Ring old, int companions) {
        long held = 0;
        int line = 0;
        for (int n = 0; n < NODES; n++) {
            if (isIn(companions, n)) {
                held |= nodes[n].held;
                line = Math.max(line, nodes[n].line);
            }
        }
        for (int n = 0; n < NODES; n++) {
            if (isIn(companions, n)) {
                nodes[n].held = held;
                nodes[n].line = line;
                deliverRegular(nodes[n], old);
                deliverTransitional(nodes[n], old, companions);
            }
        }
    }

    private void deliverTransitional(Node node, Ring old, int companions) {
        boolean gap = false;
        for (int sequence = node.place + 1; sequence <= MOST_MESSAGES; sequence++) {
            if (!node.holds(sequence)) {
                gap = true;
            } else {
                int message = old.messageAt[sequence];
                // Behind a gap, only what companions sent is sure not to depend on what is missing.
                if (!gap || isIn(companions, messages.origins[message])) {
                    node.append(2 * message + 1);
                }
            }
        }
    }

    private void enterNewRing(int members) {
        Ring ring = unusedRing();
        greatestRing++;
        ring.form(greatestRing, members);
        for (int n = 0; n < NODES; n++) {
            if (isIn(members, n)) {
                nodes[n].enter(ring);
            }
        }
    }

    private Ring unusedRing() {
        for (int r = 0; r < NODES; r++) {
            if (nodesOf(rings[r]) == 0) {
                return rings[r];
            }
        }
        // Each of the five others has one of the five nodes, so nobody is left for this one.
        return rings[NODES];
    }

    private int nodesOf(Ring ring) {
        int found = 0;
        for (int n = 0; n < NODES; n++) {
            if (nodes[n].ring == ring) {
                found |= 1 << n;
            }
        }
        return found;
    }

    private int upNodesIn(int area) {
        int found = 0;
        for (int n = 0; n < NODES; n++) {
            if (nodes[n].isUp() && nodes[n].area == area) {
                found |= 1 << n;
            }
        }
        return found;
    }

    /** A node; what it holds is a set of sequence numbers of its ring, a bit for each. */
    private static final class Node {
        final int number;
        final int[] queue;
        // A message has one sequence number in one ring, so no log has it twice.
        final int[] entries;
        // A node that is up is in a ring, one that is down in none.
        Ring ring;
        long held;
        int queued;
        int logged;
        int area;
        int line;
        int place;
        int deafness;
        int timer;

        Node(int number) {
            this.number = number;
            queue = new int[MOST_WAITING];
            entries = new int[MOST_MESSAGES];
        }

        boolean isUp() {
            return ring != null;
        }

        boolean holds(int sequence) {
            return (held & (1L << sequence)) != 0;
        }

        void hold(int sequence) {
            held |= 1L << sequence;
        }

        void receive(int sequence) {
            if (deafness > 0) {
                deafness--;
            } else {
                hold(sequence);
            }
        }

        int heldWithoutGap() {
            int reached = 0;
            while (reached < MOST_MESSAGES && holds(reached + 1)) {
                reached++;
            }
            return reached;
        }

        void enqueue(int message) {
            if (queued < MOST_WAITING) {
                queue[queued] = message;
                queued++;
            }
        }

        int dequeue() {
            int first = queue[0];
            for (int k = 1; k < queued; k++) {
                queue[k - 1] = queue[k];
            }
            queued = Math.max(0, queued - 1);
            return first;
        }

        void append(int entry) {
            if (logged < MOST_MESSAGES) {
                entries[logged] = entry;
                logged++;
            }
        }

        void enter(Ring next) {
            leaveRing();
            ring = next;
        }

        void leaveRing() {
            if (ring != null && ring.tokenAt == number) {
                ring.tokenAt = NONE;
            }
            ring = null;
            held = 0;
            line = 0;
            place = 0;
            timer = 0;
        }

        void goDown() {
            leaveRing();
            queued = 0;
            deafness = 0;
        }
    }

    /** A ring with what its token bears; it is used again for another ring when no node is in it any more. */
    private static final class Ring {
        final int[] messageAt;
        final int[] marks;
        int number;
        int members;
        int tokenAt;
        int last;
        long requests;

        Ring() {
            messageAt = new int[MOST_MESSAGES + 1];
            marks = new int[NODES];
            tokenAt = NONE;
        }

        void form(int newNumber, int newMembers) {
            number = newNumber;
            members = newMembers;
            tokenAt = memberAfter(NODES - 1);
            last = 0;
            requests = 0;
            for (int n = 0; n < NODES; n++) {
                marks[n] = 0;
            }
        }

        boolean isTokenLost() {
            return tokenAt == NONE;
        }

        boolean isRequested(int sequence) {
            return (requests & (1L << sequence)) != 0;
        }

        void takeOffRequest(int sequence) {
            requests &= ~(1L << sequence);
        }

        void markAndRequest(Node holder) {
            marks[holder.number] = holder.heldWithoutGap();
            for (int sequence = 1; sequence <= last; sequence++) {
                if (!holder.holds(sequence)) {
                    requests |= 1L << sequence;
                }
            }
        }

        int leastMark() {
            int least = MOST_MESSAGES;
            for (int n = 0; n < NODES; n++) {
                if (isIn(members, n)) {
                    least = Math.min(least, marks[n]);
                }
            }
            return least;
        }

        int memberAfter(int node) {
            for (int step = 1; step < NODES; step++) {
                int next = (node + step) % NODES;
                if (isIn(members, next)) {
                    return next;
                }
            }
            return node;
        }
    }

    /** The messages that were taken, by their numbers from 1 on. */
    private static final class Messages {
        final int[] origins;
        final boolean[] safe;
        final int[] stamps;
        int taken;

        Messages() {
            origins = new int[MOST_MESSAGES + 1];
            safe = new boolean[MOST_MESSAGES + 1];
            stamps = new int[MOST_MESSAGES + 1];
        }

        int take(int origin, boolean isSafe) {
            taken++;
            origins[taken] = origin;
            safe[taken] = isSafe;
            return taken;
        }
    }
}
