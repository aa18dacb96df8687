/** Promise 10: queue. */
public final class QueueTest {
    public static void main(String[] args) {
        wrong();
        seen(noteWaits(), 0, 1, 0, 2, 3, 0);
        seen(mappingWaits(), 0, 1, 1, 6, 16, 6);
        seen(withdrawWaits(), 0, 0, 2, 6, 16, 0);
        seen(releaseWaits(), 0, 0, 3, 6, 16, 0);
        seen(packetWaits(0), 0, 0, 4, 1, 16, 0);
        seen(packetWaits(1), 1, 0, 4, 1, -1, 0);
        firstInFirstOut();
        Due.end();
    }

    private static void wrong() {
        LabelNet net = Nets.pair();
        net.turn(0, true);
        for (int link : new int[] {-1, 12, Integer.MIN_VALUE, Integer.MAX_VALUE}) {
            Due.answer("queue(" + link + ", 0, 0)", net.queue(link, 0, 0), -1);
        }
        for (int end : new int[] {-1, 2, Integer.MIN_VALUE, Integer.MAX_VALUE}) {
            Due.answer("queue(0, " + end + ", 0)", net.queue(0, end, 0), -1);
        }
        for (int what : new int[] {-1, 5, Integer.MIN_VALUE, Integer.MAX_VALUE}) {
            Due.answer("queue(0, 0, " + what + ")", net.queue(0, 0, what), -1);
        }
        net.turn(0, false);
        Due.answer("down: queue(0, 0, 0)", net.queue(0, 0, 0), 0);
        for (int what = 1; what < 6; what++) {
            Due.answer("none waits: queue(0, 0, " + what + ")", net.queue(0, 0, what), -1);
        }
        Due.answer("not laid: queue(11, 1, 0)", net.queue(11, 1, 0), 0);
        Due.answer("not laid: queue(11, 1, 1)", net.queue(11, 1, 1), -1);
    }

    private static void seen(LabelNet net, int link, int end, int kind, int subject, int value, int path) {
        Nets.dueFirst(net, link, end, kind, subject, value, path);
        int waiting = net.queue(link, end, 0);
        net.spoil(link, end, 0);
        Nets.dueFirst(net, link, end, kind + 8, subject, value, path);
        Due.answer("as many wait", net.queue(link, end, 0), waiting);
        net.deliver(link, end);
        Due.answer("one less waits", net.queue(link, end, 0), waiting - 1);
    }

    private static LabelNet noteWaits() {
        LabelNet net = Nets.line(3);
        net.attach(6, 2);
        net.deliver(1, 1);
        return net;
    }

    private static LabelNet mappingWaits() {
        LabelNet net = noteWaits();
        net.deliver(1, 1);
        net.deliver(0, 1);
        return net;
    }

    private static LabelNet withdrawWaits() {
        LabelNet net = Nets.line(3);
        net.attach(6, 2);
        Nets.settle(net);
        net.turn(1, false);
        net.deliver(0, 1);
        return net;
    }

    private static LabelNet releaseWaits() {
        LabelNet net = withdrawWaits();
        net.deliver(0, 0);
        net.deliver(0, 1);
        return net;
    }

    /** Packet 1 waits at a router; packet 0 has gone before. */
    private static LabelNet packetWaits(int router) {
        LabelNet net = Nets.line(3);
        net.attach(6, 2);
        Nets.settle(net);
        net.inject(router, 6, 9);
        net.run(500);
        net.inject(router, 6, 9);
        return net;
    }

    private static void firstInFirstOut() {
        LabelNet net = Nets.pair();
        net.turn(0, true);
        for (int i = 1; i <= 9; i++) {
            // Each change is a NOTE, and a MAPPING or a WITHDRAW of label 3.
            net.attach(0, i % 2 == 1 ? 0 : -1);
            Due.answer("queue(0, 0, 0), " + i, net.queue(0, 0, 0), Math.min(16, 1 + 2 * i));
        }
        for (int i = 0; i < 16; i++) {
            if (i % 2 == 1 || i == 0) {
                Nets.dueNext(net, 0, 0, 0, 0, 2 + (i + 1) / 2, 0);
            } else {
                boolean attached = i % 4 == 2;
                Nets.dueNext(net, 0, 0, attached ? 1 : 2, 0, 3, attached ? 1 : 0);
            }
        }
        Due.answer("queue(0, 0, 0)", net.queue(0, 0, 0), 0);
    }
}
