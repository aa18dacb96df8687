/** Promise 3: turn, with the messages that it sends. */
public final class TurnTest {
    private static final Class<IndexOutOfBoundsException> INDEX = IndexOutOfBoundsException.class;
    private static final Class<IllegalArgumentException> ARGUMENT = IllegalArgumentException.class;

    public static void main(String[] args) {
        wrong();
        comesUp();
        goesDown();
        cutAtBothEnds();
        downReleases();
        upWithOldRecords();
        lowerChecksBehind();
        Due.end();
    }

    private static void wrong() {
        LabelNet net = Nets.pair();
        Due.thrown(net, "turn(-1, true)", INDEX, () -> net.turn(-1, true));
        Due.thrown(net, "turn(12, false)", INDEX, () -> net.turn(12, false));
        Due.thrown(net, "turn(1, true), not laid", ARGUMENT, () -> net.turn(1, true));
        Due.thrown(net, "turn(1, false), not laid", ARGUMENT, () -> net.turn(1, false));
        Due.thrown(net, "turn(0, false), down", ARGUMENT, () -> net.turn(0, false));
        net.turn(0, true);
        Due.thrown(net, "turn(0, true), UP", ARGUMENT, () -> net.turn(0, true));
        net.turn(0, false);
        Due.thrown(net, "turn(0, false), down again", ARGUMENT, () -> net.turn(0, false));
    }

    /** Router 1 of a line comes to router 3, which knew nobody. */
    private static void comesUp() {
        LabelNet net = new LabelNet(4);
        net.lay(0, 0, 1, 1);
        net.lay(1, 1, 2, 2);
        net.lay(5, 3, 1, 7);
        net.turn(0, true);
        net.turn(1, true);
        net.attach(4, 0);
        net.attach(2, 1);
        Nets.settle(net);
        net.turn(5, true);
        Due.answer("knows(1, 1)", net.knows(1, 1), 5);
        Due.answer("knows(3, 3)", net.knows(3, 3), 2);
        Due.answer("queue(0, 1, 0)", net.queue(0, 1, 0), 1);
        Nets.dueFirst(net, 0, 1, 0, 1, 5, 0);
        Due.answer("queue(1, 0, 0)", net.queue(1, 0, 0), 1);
        Nets.dueFirst(net, 1, 0, 0, 1, 5, 0);
        Due.answer("queue(5, 0, 0)", net.queue(5, 0, 0), 5);
        Due.answer("queue(5, 1, 0)", net.queue(5, 1, 0), 1);
        Nets.dueFirst(net, 5, 1, 0, 3, 2, 0);
        Nets.dueNext(net, 5, 0, 0, 1, 5, 0);
        Nets.dueNext(net, 5, 0, 0, 0, 3, 0);
        Nets.dueNext(net, 5, 0, 0, 2, 2, 0);
        Nets.dueNext(net, 5, 0, 1, 2, 3, 2);
        Nets.dueNext(net, 5, 0, 1, 4, 16, 3);
        Nets.settle(net);
        Due.answer("label(3, 2, -1, 1)", net.label(3, 2, -1, 1), 16);
        Due.answer("label(3, 2, -1, 2)", net.label(3, 2, -1, 2), 10);
        Due.answer("label(3, 4, -1, 1)", net.label(3, 4, -1, 1), 17);
        Due.answer("label(3, 4, -1, 2)", net.label(3, 4, -1, 2), 11);
        Due.answer("label(3, 4, 5, 3)", net.label(3, 4, 5, 3), 16);
    }

    /** In a line 0 - 1 - 2 with prefix 0 at router 2 the second link goes down. */
    private static void goesDown() {
        LabelNet net = Nets.line(3);
        net.attach(0, 2);
        Nets.settle(net);
        net.inject(1, 0, 5);
        net.spoil(1, 0, 0);
        net.inject(1, 0, 5);
        net.attach(7, 2);
        Due.answer("queue(1, 0, 0)", net.queue(1, 0, 0), 2);
        Due.answer("queue(1, 1, 0)", net.queue(1, 1, 0), 2);
        net.turn(1, false);
        Due.answer("down: queue(1, 0, 0)", net.queue(1, 0, 0), 0);
        Due.answer("down: queue(1, 1, 0)", net.queue(1, 1, 0), 0);
        Due.answer("a spoiled packet is CUT too", net.packet(0, 0), 6);
        Due.answer("a packet is CUT", net.packet(1, 0), 6);
        Due.answer("where it was last", net.packet(1, 1), 1);
        Due.answer("count(0, 1): what was cut was not lost in a full queue", net.count(0, 1), 0);
        Due.answer("knows(1, 1)", net.knows(1, 1), 4);
        Due.answer("knows(2, 2)", net.knows(2, 2), 5);
        Due.answer("the mapping is forgotten", net.label(1, 0, 1, 3), -1);
        Due.answer("label(1, 0, -1, 0)", net.label(1, 0, -1, 0), -1);
        Due.answer("label(1, 0, -1, 1)", net.label(1, 0, -1, 1), -1);
        Due.answer("count(1, 0): router 0 has not released", net.count(1, 0), 1);
        Due.answer("queue(0, 1, 0)", net.queue(0, 1, 0), 2);
        Nets.dueNext(net, 0, 1, 0, 1, 4, 0);
        Nets.dueNext(net, 0, 1, 2, 0, 16, 0);
        Nets.dueNext(net, 0, 0, 2, 0, 16, 0);
        Due.answer("count(1, 0), before the RELEASE", net.count(1, 0), 1);
        Nets.dueNext(net, 0, 0, 3, 0, 16, 0);
        Due.answer("count(1, 0), behind it", net.count(1, 0), 0);
        Nets.dueNext(net, 0, 1, 3, 0, 16, 0);
        Due.answer("count(0, 0)", net.count(0, 0), 0);
    }

    /** Packets in both queues of a link are lost, those in another link's queues are not. */
    private static void cutAtBothEnds() {
        LabelNet net = Nets.line(3);
        net.attach(0, 0);
        net.attach(2, 2);
        Nets.settle(net);
        net.inject(0, 2, 9);
        net.inject(1, 0, 9);
        net.inject(1, 2, 9);
        net.inject(2, 0, 9);
        net.turn(0, false);
        Due.answer("packet(0, 0)", net.packet(0, 0), 6);
        Due.answer("packet(1, 0)", net.packet(1, 0), 6);
        Due.answer("packet(2, 0)", net.packet(2, 0), 0);
        Due.answer("packet(3, 0)", net.packet(3, 0), 0);
        Due.answer("packet(0, 1), where it was last", net.packet(0, 1), 0);
        Due.answer("packet(1, 1), where it was last", net.packet(1, 1), 1);
        Due.answer("packet(0, 2)", net.packet(0, 2), 8);
        Due.answer("packet(0, 3), as when it was last put", net.packet(0, 3), 17);
        Due.answer("count(0, 2)", net.count(0, 2), 2);
    }

    /** Labels that wait for a link's other end are free when it goes down. */
    private static void downReleases() {
        LabelNet net = Nets.line(3);
        net.attach(0, 2);
        Nets.settle(net);
        net.turn(1, false);
        Due.answer("count(1, 0)", net.count(1, 0), 1);
        Due.answer("count(0, 0)", net.count(0, 0), 1);
        net.turn(0, false);
        Due.answer("down: count(1, 0)", net.count(1, 0), 0);
        Due.answer("down: count(0, 0)", net.count(0, 0), 0);
    }

    /** Down and UP again at once: each end still has the other's old record, which says that it is UP. */
    private static void upWithOldRecords() {
        LabelNet net = Nets.line(2);
        net.attach(3, 1);
        Nets.settle(net);
        net.turn(0, false);
        Due.answer("way(0, 1, 0), down", net.way(0, 1, 0), -1);
        net.turn(0, true);
        Due.answer("way(0, 1, 0), UP", net.way(0, 1, 0), 1);
        Due.answer("label(0, 3, -1, 0)", net.label(0, 3, -1, 0), 1);
        Due.answer("label(0, 3, -1, 1), no mapping yet", net.label(0, 3, -1, 1), -1);
        Due.answer("queue(0, 0, 0)", net.queue(0, 0, 0), 2);
        Nets.dueNext(net, 0, 0, 0, 0, 4, 0);
        Nets.dueNext(net, 0, 0, 0, 1, 3, 0);
        Due.answer("its own old record does nothing: queue(0, 1, 0)", net.queue(0, 1, 0), 3);
    }

    /** As in a ring router 0 goes by link 0 again at once, which has brought no mapping yet. */
    private static void lowerChecksBehind() {
        LabelNet net = Nets.ring(2);
        Due.answer("label(0, 0, -1, 2)", net.label(0, 0, -1, 2), 7);
        net.turn(0, false);
        Due.answer("label(0, 0, -1, 2), by link 2", net.label(0, 0, -1, 2), 5);
        Nets.deliverAll(net, 2, 0);
        net.turn(0, true);
        Due.answer("way(0, 2, 1)", net.way(0, 2, 1), 0);
        Due.answer("label(0, 0, -1, 1)", net.label(0, 0, -1, 1), -1);
        Due.answer("queue(2, 0, 0)", net.queue(2, 0, 0), 2);
        Nets.dueNext(net, 2, 0, 0, 0, net.knows(0, 0), 0);
        Nets.dueNext(net, 2, 0, 2, 0, 16, 0);
    }
}
