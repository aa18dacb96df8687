/** Nets that many tests begin with. */
final class Nets {
    /** Far more deliveries than any of these small nets needs to come to rest. */
    private static final int ROUNDS = 20;

    private Nets() {
    }

    /** Delivers until nothing waits. */
    static void settle(LabelNet net) {
        for (int i = 0; i < ROUNDS; i++) {
            if (net.run(500) < 500) {
                return;
            }
        }
        Due.tell("the net does not come to rest");
    }

    static void deliver(LabelNet net, int link, int end, int many) {
        for (int i = 0; i < many; i++) {
            net.deliver(link, end);
        }
    }

    /** Delivers what waits at an end of a link now; what is put there meanwhile stays. */
    static void deliverAll(LabelNet net, int link, int end) {
        deliver(net, link, end, net.queue(link, end, 0));
    }

    /** Routers in a line: link i from i to i + 1 at a cost of i + 1, all UP and at rest. */
    static LabelNet line(int routers) {
        LabelNet net = new LabelNet(routers);
        for (int i = 0; i + 1 < routers; i++) {
            net.lay(i, i, i + 1, i + 1);
            net.turn(i, true);
        }
        settle(net);
        return net;
    }

    /**
     * The ring 0 - 1 - 2 with prefix 0 at a router, all UP and at rest: links 0 and 1 lead from 0 by 1 to 2
     * at a cost of 2, link 2 from 0 to 2 at a cost of 5.
     */
    static LabelNet ring(int router) {
        LabelNet net = new LabelNet(3);
        net.lay(0, 0, 1, 1);
        net.lay(1, 1, 2, 1);
        net.lay(2, 0, 2, 5);
        for (int link = 0; link < 3; link++) {
            net.turn(link, true);
        }
        net.attach(0, router);
        settle(net);
        return net;
    }

    /** Routers 0 and 1 with link 0 of cost 1, down. */
    static LabelNet pair() {
        LabelNet net = new LabelNet(2);
        net.lay(0, 0, 1, 1);
        return net;
    }

    static void dueWay(LabelNet net, int r, int router, int distance, int hop) {
        Due.answer("way(" + r + ", " + router + ", 0)", net.way(r, router, 0), distance);
        Due.answer("way(" + r + ", " + router + ", 1)", net.way(r, router, 1), hop);
    }

    /** What waits first at an end of a link: kind, router or prefix or packet, number or label, path. */
    static void dueFirst(LabelNet net, int link, int end, int kind, int subject, int value, int path) {
        String at = ", first of queue " + link + "/" + end;
        Due.answer("kind" + at, net.queue(link, end, 1), kind);
        Due.answer("subject" + at, net.queue(link, end, 2), subject);
        Due.answer("value" + at, net.queue(link, end, 3), value);
        Due.answer("path" + at, net.queue(link, end, 4), path);
    }

    /** As dueFirst; then that message is delivered. */
    static void dueNext(LabelNet net, int link, int end, int kind, int subject, int value, int path) {
        dueFirst(net, link, end, kind, subject, value, path);
        Due.answer("deliver " + link + "/" + end, net.deliver(link, end), kind);
    }
}
