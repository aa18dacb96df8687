/**
 * A network of routers that tell one another of their links, find shortest ways, bind labels to
 * prefixes along these, and send packets by labels; each message waits in a queue until it is told
 * to be delivered.
 */
public final class LabelNet {
    public static final int NONE = -1;

    private static final int LEAST_ROUTERS = 2;
    private static final int MOST_ROUTERS = 8;
    private static final int LINKS = 12;
    private static final int ENDS = 2;
    private static final int PREFIXES = 8;
    private static final int PACKETS = 64;
    private static final int QUEUE_ROOM = 16;
    private static final int MOST_COST = 60;
    private static final int MOST_TTL = 60;
    private static final int MOST_RUN = 500;

    private static final int EGRESS_LABEL = 3;
    private static final int FIRST_LABEL = 16;
    private static final int BEHIND_LABELS = 80;

    /** Above every sum of costs, and far enough below the greatest int to be added to itself. */
    private static final int FAR = 1000000;

    private static final int NOTE = 0;
    private static final int MAPPING = 1;
    private static final int WITHDRAW = 2;
    private static final int RELEASE = 3;
    private static final int PACKET = 4;
    private static final int SPOILED = 8;

    private static final int UNDER_WAY = 0;
    private static final int DELIVERED = 1;
    private static final int NO_WAY = 2;
    private static final int NO_LABEL = 3;
    private static final int TTL_OVER = 4;
    private static final int FULL = 5;
    private static final int CUT = 6;
    private static final int BROKEN = 7;

    private final Router[] routers;
    private final Link[] links = new Link[LINKS];
    private final int[] attachedTo = new int[PREFIXES];
    private final Packet[] packets = new Packet[PACKETS];
    private int packetCount = 0;
    private int lostMessages = 0;

    /** Every message is written here first and copied from here, so that sending makes no objects. */
    private final Message draft = new Message();

    public LabelNet(int routers) {
        int size = Math.max(LEAST_ROUTERS, Math.min(MOST_ROUTERS, routers));
        this.routers = new Router[size];
        for (int i = 0; i < size; i++) {
            this.routers[i] = new Router(i);
        }
        for (int i = 0; i < LINKS; i++) {
            links[i] = new Link();
        }
        for (int i = 0; i < PREFIXES; i++) {
            attachedTo[i] = NONE;
        }
    }

    // ---- the face: what changes the network

    public void lay(int link, int a, int b, int cost) throws IndexOutOfBoundsException, IllegalArgumentException {
        if (!isLink(link) || !isRouter(a) || !isRouter(b)) {
            throw new IndexOutOfBoundsException("no such link or router");
        }
        if (links[link].laid || a == b || cost < 1 || cost > MOST_COST) {
            throw new IllegalArgumentException("the link is laid, its ends are the same, or its cost is not 1 .. 60");
        }
        Link laid = links[link];
        laid.laid = true;
        laid.lower = Math.min(a, b);
        laid.greater = Math.max(a, b);
        laid.cost = cost;
    }

    public void turn(int link, boolean up) throws IndexOutOfBoundsException, IllegalArgumentException {
        if (!isLink(link)) {
            throw new IndexOutOfBoundsException("no such link");
        }
        if (!links[link].laid || links[link].up == up) {
            throw new IllegalArgumentException("the link is not laid, or so already");
        }
        if (up) {
            comesUp(link);
        } else {
            goesDown(link);
        }
    }

    public void attach(int prefix, int router) throws IndexOutOfBoundsException, IllegalArgumentException {
        if (!isPrefix(prefix) || !(router == NONE || isRouter(router))) {
            throw new IndexOutOfBoundsException("no such prefix or router");
        }
        int before = attachedTo[prefix];
        if (before == router) {
            throw new IllegalArgumentException("the prefix is attached so already");
        }
        attachedTo[prefix] = router;
        if (before != NONE) {
            tell(routers[before]);
            check(routers[before]);
        }
        if (router != NONE) {
            tell(routers[router]);
            check(routers[router]);
        }
    }

    public int deliver(int link, int end) throws IndexOutOfBoundsException {
        if (!isLink(link) || !isEnd(end)) {
            throw new IndexOutOfBoundsException("no such link or end");
        }
        return handOver(link, end);
    }

    public int run(int n) throws IllegalArgumentException {
        if (n < 0 || n > MOST_RUN) {
            throw new IllegalArgumentException("n is not 0 .. 500");
        }
        for (int done = 0; done < n; done++) {
            int waiting = firstThatWaits();
            if (waiting == NONE) {
                return done;
            }
            handOver(waiting / ENDS, waiting % ENDS);
        }
        return n;
    }

    public boolean spoil(int link, int end, int k) throws IndexOutOfBoundsException {
        if (!isLink(link) || !isEnd(end)) {
            throw new IndexOutOfBoundsException("no such link or end");
        }
        Message message = links[link].queues[end].at(k);
        if (message == null) {
            return false;
        }
        message.spoiled = true;
        return true;
    }

    public int inject(int router, int prefix, int ttl) throws IndexOutOfBoundsException, IllegalArgumentException {
        if (!isRouter(router) || !isPrefix(prefix)) {
            throw new IndexOutOfBoundsException("no such router or prefix");
        }
        if (ttl < 0 || ttl > MOST_TTL || packetCount >= PACKETS) {
            throw new IllegalArgumentException("TTL is not 0 .. 60, or there are 64 packets");
        }
        int number = packetCount;
        packets[number] = new Packet(prefix, ttl);
        packetCount++;
        packetComes(routers[router], number, NONE);
        return number;
    }

    // ---- the face: what only looks

    public int packet(int k, int what) {
        if (k < 0 || k >= packetCount) {
            return NONE;
        }
        Packet packet = packets[k];
        switch (what) {
            case 0:
                return packet.fate;
            case 1:
                return packet.router;
            case 2:
                return packet.ttl;
            case 3:
                return packet.label;
            case 4:
                return packet.prefix;
            default:
                return NONE;
        }
    }

    public int queue(int link, int end, int what) {
        if (!isLink(link) || !isEnd(end)) {
            return NONE;
        }
        MessageQueue queue = links[link].queues[end];
        if (what == 0) {
            return queue.size;
        }
        Message first = queue.at(0);
        if (first == null) {
            return NONE;
        }
        switch (what) {
            case 1:
                return first.shownKind();
            case 2:
                return first.subject;
            case 3:
                return first.value;
            case 4:
                return first.path;
            default:
                return NONE;
        }
    }

    public int knows(int r, int router) {
        if (!isRouter(r) || !isRouter(router)) {
            return NONE;
        }
        RouterRecord known = routers[r].known[router];
        return known == null ? 0 : known.number;
    }

    public int way(int r, int router, int what) {
        if (!isRouter(r) || !isRouter(router)) {
            return NONE;
        }
        if (what == 0) {
            int distance = routers[r].distances[r][router];
            return distance < FAR ? distance : NONE;
        }
        return what == 1 ? hop(routers[r], router) : NONE;
    }

    public int label(int r, int prefix, int link, int what) {
        if (!isRouter(r) || !isPrefix(prefix)) {
            return NONE;
        }
        Router router = routers[r];
        switch (what) {
            case 0:
                return router.egress(prefix);
            case 1:
                return router.labels[prefix];
            case 2:
                return router.paths[prefix];
            case 3:
                return ofMapping(router, prefix, link, router.mappedLabels);
            case 4:
                return ofMapping(router, prefix, link, router.mappedPaths);
            default:
                return NONE;
        }
    }

    public int count(int r, int what) {
        switch (what) {
            case 0:
                return isRouter(r) ? routers[r].labelsInUse() : NONE;
            case 1:
                return lostMessages;
            case 2:
                return packetsUnderWay();
            case 3:
                return linksUp();
            default:
                return NONE;
        }
    }

    // ---- what there is

    private static boolean isLink(int link) {
        return link >= 0 && link < LINKS;
    }

    private static boolean isEnd(int end) {
        return end >= 0 && end < ENDS;
    }

    private static boolean isPrefix(int prefix) {
        return prefix >= 0 && prefix < PREFIXES;
    }

    private boolean isRouter(int router) {
        return router >= 0 && router < routers.length;
    }

    private int packetsUnderWay() {
        int found = 0;
        for (int i = 0; i < packetCount; i++) {
            if (packets[i].fate == UNDER_WAY) {
                found++;
            }
        }
        return found;
    }

    private int linksUp() {
        int found = 0;
        for (int i = 0; i < LINKS; i++) {
            if (links[i].up) {
                found++;
            }
        }
        return found;
    }

    // ---- links and records

    private void comesUp(int link) {
        Link l = links[link];
        Router lower = routers[l.lower];
        Router greater = routers[l.greater];
        l.up = true;
        tell(lower);
        tell(greater);
        putKnownNotes(lower, link);
        putKnownNotes(greater, link);
        putMappings(lower, link);
        putMappings(greater, link);
        check(lower);
        check(greater);
    }

    private void goesDown(int link) {
        Link l = links[link];
        Router lower = routers[l.lower];
        Router greater = routers[l.greater];
        l.up = false;
        cut(l.queues[0]);
        cut(l.queues[1]);
        tell(lower);
        tell(greater);
        lower.forgetLink(link);
        greater.forgetLink(link);
        check(lower);
        check(greater);
    }

    private void cut(MessageQueue queue) {
        for (int k = 0; k < queue.size; k++) {
            Message message = queue.at(k);
            if (message != null && message.kind == PACKET) {
                packets[message.subject].fate = CUT;
            }
        }
        queue.size = 0;
    }

    private void tell(Router router) {
        RouterRecord before = router.known[router.id];
        int number = before == null ? 1 : before.number + 1;
        RouterRecord told = new RouterRecord(router.id, number, linksUpAt(router.id), prefixesAt(router.id));
        learn(router, told);
        sendOnAll(router, draft.asNote(told), NONE);
    }

    private int linksUpAt(int router) {
        int bits = 0;
        for (int i = 0; i < LINKS; i++) {
            if (links[i].isUpAt(router)) {
                bits |= 1 << i;
            }
        }
        return bits;
    }

    private int prefixesAt(int router) {
        int bits = 0;
        for (int i = 0; i < PREFIXES; i++) {
            if (attachedTo[i] == router) {
                bits |= 1 << i;
            }
        }
        return bits;
    }

    private void putKnownNotes(Router router, int link) {
        for (int i = 0; i < routers.length; i++) {
            RouterRecord known = router.known[i];
            if (i != router.id && known != null) {
                put(router, link, draft.asNote(known));
            }
        }
    }

    private void putMappings(Router router, int link) {
        for (int i = 0; i < PREFIXES; i++) {
            if (router.labels[i] != NONE) {
                put(router, link, draft.as(MAPPING, i, router.labels[i], router.paths[i]));
            }
        }
    }

    // ---- ways

    private void learn(Router router, RouterRecord told) {
        router.known[told.router] = told;
        router.forgetDistances();
        for (int i = 0; i < LINKS; i++) {
            Link l = links[i];
            if (l.laid && router.knowsUp(l.lower, i) && router.knowsUp(l.greater, i)) {
                router.takeStep(l.lower, l.greater, l.cost);
            }
        }
        router.joinSteps();
    }

    /** The first link of the shortest way, NONE to itself and where no way leads. */
    private int hop(Router router, int to) {
        int whole = router.distances[router.id][to];
        if (to == router.id || whole >= FAR) {
            return NONE;
        }
        for (int i = 0; i < LINKS; i++) {
            Link l = links[i];
            if (l.isUpAt(router.id) && router.knowsUp(router.id, i)
                    && l.cost + router.distances[l.otherEnd(router.id)][to] == whole) {
                return i;
            }
        }
        return NONE;
    }

    private int hopToEgress(Router router, int prefix) {
        int egress = router.egress(prefix);
        return egress == NONE ? NONE : hop(router, egress);
    }

    // ---- messages

    private void sendOnAll(Router router, Message message, int exceptLink) {
        for (int i = 0; i < LINKS; i++) {
            if (i != exceptLink && links[i].isUpAt(router.id)) {
                put(router, i, message);
            }
        }
    }

    /** Whether the message found room. */
    private boolean put(Router router, int link, Message message) {
        if (message.kind == MAPPING && Router.isOwnLabel(message.value)) {
            // The document waits for the links to which a MAPPING was put, lost in a full queue or not.
            router.unreleased[message.value] |= 1 << link;
        }
        Message slot = links[link].queueOf(router.id).nextFree();
        if (slot == null) {
            if (message.kind != PACKET) {
                lostMessages++;
            }
            return false;
        }
        slot.copy(message);
        return true;
    }

    /** The first link's end where a message waits, as link * ENDS + end; NONE if none waits. */
    private int firstThatWaits() {
        for (int i = 0; i < LINKS; i++) {
            for (int end = 0; end < ENDS; end++) {
                if (links[i].queues[end].size > 0) {
                    return i * ENDS + end;
                }
            }
        }
        return NONE;
    }

    private int handOver(int link, int end) {
        MessageQueue queue = links[link].queues[end];
        Message message = queue.at(0);
        if (message == null) {
            return NONE;
        }
        queue.dropFirst();
        if (message.spoiled) {
            if (message.kind == PACKET) {
                packets[message.subject].fate = BROKEN;
            }
            return message.shownKind();
        }
        Router receiver = routers[end == 0 ? links[link].greater : links[link].lower];
        boolean checks = true;
        switch (message.kind) {
            case NOTE:
                checks = noteComes(receiver, link, message.record);
                break;
            case MAPPING:
                mappingComes(receiver, link, message);
                break;
            case WITHDRAW:
                withdrawComes(receiver, link, message);
                break;
            case RELEASE:
                checks = receiver.releaseCounts(message.subject, message.value, link);
                break;
            default:
                checks = false;
                packetComes(receiver, message.subject, message.value);
                break;
        }
        if (checks) {
            check(receiver);
        }
        return message.kind;
    }

    /** Whether the record is known now. */
    private boolean noteComes(Router router, int link, RouterRecord told) {
        if (told == null || told.router == router.id) {
            return false;
        }
        RouterRecord known = router.known[told.router];
        if (known == null || told.number > known.number) {
            learn(router, told);
            sendOnAll(router, draft.asNote(told), link);
            return true;
        }
        if (told.number < known.number) {
            put(router, link, draft.asNote(known));
        }
        return false;
    }

    private void mappingComes(Router router, int link, Message mapping) {
        int prefix = mapping.subject;
        if ((mapping.path & 1 << router.id) != 0) {
            put(router, link, draft.as(RELEASE, prefix, mapping.value, 0));
            router.forgetMapping(prefix, link);
        } else {
            router.mappedLabels[prefix][link] = mapping.value;
            router.mappedPaths[prefix][link] = mapping.path;
        }
    }

    private void withdrawComes(Router router, int link, Message withdrawal) {
        int prefix = withdrawal.subject;
        if (router.mappedLabels[prefix][link] == withdrawal.value) {
            router.forgetMapping(prefix, link);
        }
        put(router, link, draft.as(RELEASE, prefix, withdrawal.value, 0));
    }

    // ---- labels

    private void check(Router router) {
        for (int i = 0; i < PREFIXES; i++) {
            checkPrefix(router, i);
        }
    }

    private void checkPrefix(Router router, int prefix) {
        int labelBefore = router.labels[prefix];
        int pathBefore = router.paths[prefix];
        int path = pathNow(router, prefix);
        int label = router.labelFor(labelBefore, path);
        if (label == NONE) {
            path = NONE;
        }
        if (label == labelBefore && path == pathBefore) {
            return;
        }
        router.bind(prefix, label, path);
        if (labelBefore != NONE && labelBefore != label) {
            sendOnAll(router, draft.as(WITHDRAW, prefix, labelBefore, 0), NONE);
            router.freeIfReleased(labelBefore);
        }
        if (label != NONE) {
            sendOnAll(router, draft.as(MAPPING, prefix, label, path), NONE);
        }
    }

    /** The path that an ACTIVE router has, as bits; NONE if it is neither the EGRESS nor has its HOP's mapping. */
    private int pathNow(Router router, int prefix) {
        int egress = router.egress(prefix);
        if (egress == NONE) {
            return NONE;
        }
        if (egress == router.id) {
            return 1 << router.id;
        }
        int hop = hop(router, egress);
        if (hop == NONE || router.mappedLabels[prefix][hop] == NONE) {
            return NONE;
        }
        return router.mappedPaths[prefix][hop] | 1 << router.id;
    }

    private int ofMapping(Router router, int prefix, int link, int[][] part) {
        int by = link == NONE ? hopToEgress(router, prefix) : link;
        return isLink(by) ? part[prefix][by] : NONE;
    }

    // ---- packets

    private void packetComes(Router router, int number, int label) {
        Packet packet = packets[number];
        packet.router = router.id;
        if (label != NONE) {
            int prefix = router.prefixOfLabel(label);
            if (prefix == NONE) {
                packet.fate = NO_LABEL;
            } else {
                go(router, number, prefix);
            }
        } else if (attachedTo[packet.prefix] == router.id) {
            packet.fate = DELIVERED;
        } else {
            go(router, number, packet.prefix);
        }
    }

    /** Sends a packet towards the EGRESS of a prefix, which need not be its own: a label may lead it elsewhere. */
    private void go(Router router, int number, int prefix) {
        Packet packet = packets[number];
        int hop = hopToEgress(router, prefix);
        if (hop == NONE) {
            packet.fate = NO_WAY;
            return;
        }
        if (packet.ttl == 0) {
            packet.fate = TTL_OVER;
            return;
        }
        packet.ttl--;
        int mapped = router.mappedLabels[prefix][hop];
        int label = mapped == EGRESS_LABEL ? NONE : mapped;
        if (put(router, hop, draft.as(PACKET, number, label, 0))) {
            packet.label = label;
        } else {
            packet.fate = FULL;
        }
    }

    /** What a router says of itself; it never changes, so that messages and routers can share it. */
    private static final class RouterRecord {
        final int router;
        final int number;
        final int linkBits;
        final int prefixBits;

        RouterRecord(int router, int number, int linkBits, int prefixBits) {
            this.router = router;
            this.number = number;
            this.linkBits = linkBits;
            this.prefixBits = prefixBits;
        }
    }

    private static final class Message {
        int kind;
        int subject;
        int value;
        int path;
        RouterRecord record;
        boolean spoiled;

        Message as(int newKind, int newSubject, int newValue, int newPath) {
            kind = newKind;
            subject = newSubject;
            value = newValue;
            path = newPath;
            record = null;
            return this;
        }

        Message asNote(RouterRecord told) {
            as(NOTE, told.router, told.number, 0);
            record = told;
            return this;
        }

        void copy(Message other) {
            kind = other.kind;
            subject = other.subject;
            value = other.value;
            path = other.path;
            record = other.record;
            spoiled = false;
        }

        int shownKind() {
            return spoiled ? kind + SPOILED : kind;
        }
    }

    /** The messages that wait at one end of a link; its slots are used again and again. */
    private static final class MessageQueue {
        final Message[] slots = new Message[QUEUE_ROOM];
        int first = 0;
        int size = 0;

        MessageQueue() {
            for (int i = 0; i < QUEUE_ROOM; i++) {
                slots[i] = new Message();
            }
        }

        /** Message k of those that wait, null if there is none such. */
        Message at(int k) {
            return k < 0 || k >= size ? null : slots[(first + k) % QUEUE_ROOM];
        }

        /** The slot of a message more, null if the queue is full. */
        Message nextFree() {
            if (size >= QUEUE_ROOM) {
                return null;
            }
            size++;
            return slots[(first + size - 1) % QUEUE_ROOM];
        }

        void dropFirst() {
            if (size > 0) {
                first = (first + 1) % QUEUE_ROOM;
                size--;
            }
        }
    }

    private static final class Link {
        boolean laid = false;
        boolean up = false;
        int lower = 0;
        int greater = 0;
        int cost = 0;
        final MessageQueue[] queues = new MessageQueue[ENDS];

        Link() {
            for (int i = 0; i < ENDS; i++) {
                queues[i] = new MessageQueue();
            }
        }

        boolean isUpAt(int router) {
            return up && (router == lower || router == greater);
        }

        int otherEnd(int router) {
            return router == lower ? greater : lower;
        }

        MessageQueue queueOf(int router) {
            return queues[router == lower ? 0 : 1];
        }
    }

    private static final class Packet {
        final int prefix;
        int ttl;
        int router = NONE;
        int label = NONE;
        int fate = UNDER_WAY;

        Packet(int prefix, int ttl) {
            this.prefix = prefix;
            this.ttl = ttl;
        }
    }

    private static final class Router {
        final int id;
        final RouterRecord[] known = new RouterRecord[MOST_ROUTERS];
        /** Between every two routers, by what this one knows; FAR where no way leads. */
        final int[][] distances = new int[MOST_ROUTERS][MOST_ROUTERS];
        /** By prefix and the link that brought the mapping; NONE where there is none. */
        final int[][] mappedLabels = new int[PREFIXES][LINKS];
        final int[][] mappedPaths = new int[PREFIXES][LINKS];
        /** By prefix, as the last CHECK left them; NONE where it is not ACTIVE. */
        final int[] labels = new int[PREFIXES];
        final int[] paths = new int[PREFIXES];
        /** By label: the prefix for which it is in use, NONE if it is free. */
        final int[] users = new int[BEHIND_LABELS];
        /** By label: the links that were put its MAPPING and have not released it, as bits. */
        final int[] unreleased = new int[BEHIND_LABELS];

        Router(int id) {
            this.id = id;
            known[id] = new RouterRecord(id, 1, 0, 0);
            forgetDistances();
            for (int i = 0; i < PREFIXES; i++) {
                labels[i] = NONE;
                paths[i] = NONE;
                for (int link = 0; link < LINKS; link++) {
                    forgetMapping(i, link);
                }
            }
            for (int i = 0; i < BEHIND_LABELS; i++) {
                users[i] = NONE;
            }
        }

        boolean knowsUp(int router, int link) {
            return known[router] != null && (known[router].linkBits >> link & 1) == 1;
        }

        void forgetDistances() {
            for (int a = 0; a < MOST_ROUTERS; a++) {
                for (int b = 0; b < MOST_ROUTERS; b++) {
                    distances[a][b] = a == b ? 0 : FAR;
                }
            }
        }

        void takeStep(int a, int b, int cost) {
            int least = Math.min(distances[a][b], cost);
            distances[a][b] = least;
            distances[b][a] = least;
        }

        /** From steps to ways: each router in turn is allowed to lie on them. */
        void joinSteps() {
            for (int middle = 0; middle < MOST_ROUTERS; middle++) {
                for (int a = 0; a < MOST_ROUTERS; a++) {
                    if (distances[a][middle] < FAR) {
                        joinAt(a, middle);
                    }
                }
            }
        }

        void joinAt(int a, int middle) {
            for (int b = 0; b < MOST_ROUTERS; b++) {
                distances[a][b] = Math.min(distances[a][b], distances[a][middle] + distances[middle][b]);
            }
        }

        /** The EGRESS of a prefix, NONE if there is none. */
        int egress(int prefix) {
            for (int i = 0; i < MOST_ROUTERS; i++) {
                RouterRecord told = known[i];
                if (told != null && (told.prefixBits >> prefix & 1) == 1 && distances[id][i] < FAR) {
                    return i;
                }
            }
            return NONE;
        }

        void forgetMapping(int prefix, int link) {
            mappedLabels[prefix][link] = NONE;
            mappedPaths[prefix][link] = NONE;
        }

        void forgetLink(int link) {
            for (int i = 0; i < PREFIXES; i++) {
                forgetMapping(i, link);
            }
            for (int i = FIRST_LABEL; i < BEHIND_LABELS; i++) {
                unreleased[i] &= ~(1 << link);
                freeIfReleased(i);
            }
        }

        /** The label that goes with a path; NONE without a path, or if it needs one and none is free. */
        int labelFor(int labelBefore, int path) {
            if (path == NONE) {
                return NONE;
            }
            // A mapping's path has the router that sent it, so only the EGRESS is alone on its path.
            if (path == 1 << id) {
                return EGRESS_LABEL;
            }
            return labelBefore >= FIRST_LABEL ? labelBefore : leastFreeLabel();
        }

        int leastFreeLabel() {
            for (int i = FIRST_LABEL; i < BEHIND_LABELS; i++) {
                if (users[i] == NONE) {
                    return i;
                }
            }
            return NONE;
        }

        void bind(int prefix, int label, int path) {
            labels[prefix] = label;
            paths[prefix] = path;
            if (isOwnLabel(label)) {
                users[label] = prefix;
            }
        }

        static boolean isOwnLabel(int label) {
            return label >= FIRST_LABEL && label < BEHIND_LABELS;
        }

        boolean releaseCounts(int prefix, int label, int link) {
            if (!isOwnLabel(label) || users[label] != prefix) {
                return false;
            }
            unreleased[label] &= ~(1 << link);
            freeIfReleased(label);
            return true;
        }

        /** A label that an ACTIVE prefix has stays in use, whoever released it. */
        void freeIfReleased(int label) {
            if (isOwnLabel(label) && users[label] != NONE && unreleased[label] == 0
                    && labels[users[label]] != label) {
                users[label] = NONE;
            }
        }

        int prefixOfLabel(int label) {
            for (int i = 0; i < PREFIXES; i++) {
                if (labels[i] == label) {
                    return i;
                }
            }
            return NONE;
        }

        int labelsInUse() {
            int found = 0;
            for (int i = FIRST_LABEL; i < BEHIND_LABELS; i++) {
                if (users[i] != NONE) {
                    found++;
                }
            }
            return found;
        }
    }
}
