/** Promise 4: attach. */
public final class AttachTest {
    private static final Class<IndexOutOfBoundsException> INDEX = IndexOutOfBoundsException.class;
    private static final Class<IllegalArgumentException> ARGUMENT = IllegalArgumentException.class;

    public static void main(String[] args) {
        wrong(new LabelNet(3));
        told();
        moved();
        takenAway();
        Due.end();
    }

    private static void wrong(LabelNet net) {
        Due.thrown(net, "attach(-1, 0)", INDEX, () -> net.attach(-1, 0));
        Due.thrown(net, "attach(8, 0)", INDEX, () -> net.attach(8, 0));
        Due.thrown(net, "attach(8, -1)", INDEX, () -> net.attach(8, -1));
        Due.thrown(net, "attach(0, 3)", INDEX, () -> net.attach(0, 3));
        Due.thrown(net, "attach(0, -2)", INDEX, () -> net.attach(0, -2));
        Due.thrown(net, "attach(0, min)", INDEX, () -> net.attach(0, Integer.MIN_VALUE));
        Due.thrown(net, "attach(0, NONE), not attached", ARGUMENT, () -> net.attach(0, LabelNet.NONE));
        net.attach(0, 2);
        Due.thrown(net, "attach(0, 2) again", ARGUMENT, () -> net.attach(0, 2));
        net.attach(0, LabelNet.NONE);
        Due.thrown(net, "attach(0, NONE) again", ARGUMENT, () -> net.attach(0, LabelNet.NONE));
    }

    private static void told() {
        LabelNet net = Nets.line(3);
        net.attach(7, 1);
        Due.answer("knows(1, 1)", net.knows(1, 1), 4);
        Due.answer("label(1, 7, -1, 0)", net.label(1, 7, -1, 0), 1);
        Due.answer("label(1, 7, -1, 1)", net.label(1, 7, -1, 1), 3);
        Due.answer("label(1, 7, -1, 2)", net.label(1, 7, -1, 2), 2);
        Due.answer("queue(0, 1, 0)", net.queue(0, 1, 0), 2);
        Nets.dueNext(net, 0, 1, 0, 1, 4, 0);
        Nets.dueNext(net, 0, 1, 1, 7, 3, 2);
        Due.answer("queue(1, 0, 0)", net.queue(1, 0, 0), 2);
        Nets.dueNext(net, 1, 0, 0, 1, 4, 0);
        Nets.dueNext(net, 1, 0, 1, 7, 3, 2);
        net.attach(0, 1);
        Due.answer("a second prefix: queue(0, 1, 0)", net.queue(0, 1, 0), 2);
        Nets.dueNext(net, 0, 1, 0, 1, 5, 0);
        Nets.dueFirst(net, 0, 1, 1, 0, 3, 2);
    }

    private static void moved() {
        LabelNet net = Nets.line(3);
        net.attach(1, 0);
        Nets.settle(net);
        net.attach(1, 2);
        Due.answer("knows(0, 0)", net.knows(0, 0), 4);
        Due.answer("knows(2, 2)", net.knows(2, 2), 3);
        Due.answer("label(0, 1, -1, 1)", net.label(0, 1, -1, 1), -1);
        Due.answer("queue(0, 0, 0)", net.queue(0, 0, 0), 2);
        // Router 2 still knows router 0's record with the prefix, and the lower router is the EGRESS.
        Due.answer("label(2, 1, -1, 0)", net.label(2, 1, -1, 0), 0);
        Due.answer("queue(1, 1, 0)", net.queue(1, 1, 0), 1);
        Nets.dueFirst(net, 1, 1, 0, 2, 3, 0);
        Due.answer("inject(2, 1, 0)", net.inject(2, 1, 0), 0);
        Due.answer("where it is attached it is DELIVERED", net.packet(0, 0), 1);
        Nets.dueNext(net, 0, 0, 0, 0, 4, 0);
        Nets.dueNext(net, 0, 0, 2, 1, 3, 0);
        Nets.settle(net);
        Due.answer("label(2, 1, -1, 1)", net.label(2, 1, -1, 1), 3);
        Due.answer("label(1, 1, -1, 0)", net.label(1, 1, -1, 0), 2);
        Due.answer("label(0, 1, -1, 2)", net.label(0, 1, -1, 2), 7);
        Due.answer("count(2, 0)", net.count(2, 0), 0);
    }

    private static void takenAway() {
        LabelNet net = Nets.line(2);
        net.attach(1, 0);
        Nets.settle(net);
        Due.answer("label(1, 1, -1, 1)", net.label(1, 1, -1, 1), 16);
        net.attach(1, LabelNet.NONE);
        Due.answer("knows(0, 0)", net.knows(0, 0), 4);
        Nets.dueNext(net, 0, 0, 0, 0, 4, 0);
        Nets.dueFirst(net, 0, 1, 2, 1, 16, 0);
        Nets.dueNext(net, 0, 0, 2, 1, 3, 0);
        Nets.settle(net);
        Due.answer("label(1, 1, -1, 0)", net.label(1, 1, -1, 0), -1);
        Due.answer("label(1, 1, 0, 3)", net.label(1, 1, 0, 3), -1);
        Due.answer("count(1, 0)", net.count(1, 0), 0);
    }
}
