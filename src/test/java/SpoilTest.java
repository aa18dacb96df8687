/** Promise 7: spoil. */
public final class SpoilTest {
    private static final Class<IndexOutOfBoundsException> INDEX = IndexOutOfBoundsException.class;

    public static void main(String[] args) {
        wrong();
        spoiledDoesNothing();
        spoiledLabels();
        spoiledPacket();
        slotIsCleanAgain();
        Due.end();
    }

    private static void wrong() {
        LabelNet net = Nets.pair();
        Due.thrown(net, "spoil(-1, 0, 0)", INDEX, () -> net.spoil(-1, 0, 0));
        Due.thrown(net, "spoil(12, 0, 0)", INDEX, () -> net.spoil(12, 0, 0));
        Due.thrown(net, "spoil(0, -1, 0)", INDEX, () -> net.spoil(0, -1, 0));
        Due.thrown(net, "spoil(0, 2, 0)", INDEX, () -> net.spoil(0, 2, 0));
        Due.answer("spoil(0, 0, 0), down", net.spoil(0, 0, 0), false);
        Due.answer("spoil(5, 0, 0), not laid", net.spoil(5, 0, 0), false);
        net.turn(0, true);
        int[] before = Look.at(net);
        Due.answer("spoil(0, 0, 1), one waits", net.spoil(0, 0, 1), false);
        Due.answer("spoil(0, 0, -1)", net.spoil(0, 0, -1), false);
        Due.answer("spoil(0, 0, 16)", net.spoil(0, 0, 16), false);
        Due.answer("spoil(0, 0, max)", net.spoil(0, 0, Integer.MAX_VALUE), false);
        Due.answer("spoil(0, 0, min)", net.spoil(0, 0, Integer.MIN_VALUE), false);
        Due.answer("nothing is changed", java.util.Arrays.equals(before, Look.at(net)), true);
    }

    private static void spoiledDoesNothing() {
        LabelNet net = Nets.pair();
        net.attach(2, 1);
        net.turn(0, true);
        Due.answer("spoil(0, 1, 0)", net.spoil(0, 1, 0), true);
        Due.answer("spoil(0, 1, 0) again", net.spoil(0, 1, 0), true);
        Nets.dueFirst(net, 0, 1, 8, 1, 3, 0);
        Due.answer("the other end's is whole", net.queue(0, 0, 1), 0);
        Due.answer("deliver(0, 1)", net.deliver(0, 1), 8);
        Due.answer("knows(0, 1)", net.knows(0, 1), 0);
        Due.answer("the one behind it is whole", net.queue(0, 1, 1), 1);
    }

    private static void spoiledLabels() {
        LabelNet net = Nets.pair();
        net.attach(2, 1);
        net.turn(0, true);
        Due.answer("spoil(0, 1, 1), the second", net.spoil(0, 1, 1), true);
        Due.answer("deliver(0, 1)", net.deliver(0, 1), 0);
        Due.answer("deliver(0, 1)", net.deliver(0, 1), 9);
        Due.answer("label(0, 2, 0, 3)", net.label(0, 2, 0, 3), -1);
        Due.answer("label(0, 2, -1, 1)", net.label(0, 2, -1, 1), -1);
        LabelNet other = linkOneDown();
        Due.answer("spoil(0, 1, 0), a WITHDRAW", other.spoil(0, 1, 0), true);
        Due.answer("deliver(0, 1)", other.deliver(0, 1), 10);
        Due.answer("label(0, 0, 0, 3): it was not withdrawn", other.label(0, 0, 0, 3), 16);
        Due.answer("no RELEASE goes back: queue(0, 0, 0)", other.queue(0, 0, 0), 1);
        other = linkOneDown();
        Due.answer("deliver(0, 1), a WITHDRAW", other.deliver(0, 1), 2);
        Due.answer("deliver(0, 0), a WITHDRAW", other.deliver(0, 0), 2);
        Due.answer("spoil(0, 0, 0), a RELEASE", other.spoil(0, 0, 0), true);
        Due.answer("deliver(0, 0)", other.deliver(0, 0), 11);
        Due.answer("count(1, 0): it was not released", other.count(1, 0), 1);
    }

    /** A WITHDRAW of router 1's label 16 waits at link 0. */
    private static LabelNet linkOneDown() {
        LabelNet net = Nets.line(3);
        net.attach(0, 2);
        Nets.settle(net);
        net.turn(1, false);
        net.deliver(0, 1);
        return net;
    }

    private static void spoiledPacket() {
        LabelNet net = Nets.line(2);
        net.attach(0, 1);
        Nets.settle(net);
        net.inject(0, 0, 4);
        net.inject(0, 0, 4);
        net.inject(0, 0, 4);
        Due.answer("spoil(0, 0, 1)", net.spoil(0, 0, 1), true);
        Due.answer("under way until it is delivered", net.packet(1, 0), 0);
        Due.answer("deliver(0, 0)", net.deliver(0, 0), 4);
        Due.answer("queue(0, 0, 1)", net.queue(0, 0, 1), 12);
        Due.answer("deliver(0, 0)", net.deliver(0, 0), 12);
        Due.answer("deliver(0, 0)", net.deliver(0, 0), 4);
        Due.answer("packet(0, 0)", net.packet(0, 0), 1);
        Due.answer("packet(1, 0), BROKEN", net.packet(1, 0), 7);
        Due.answer("packet(1, 1), where it was last", net.packet(1, 1), 0);
        Due.answer("packet(2, 0)", net.packet(2, 0), 1);
    }

    /** More messages than a queue holds pass one after the other: none inherits that one was spoiled. */
    private static void slotIsCleanAgain() {
        LabelNet net = Nets.line(2);
        net.attach(0, 1);
        Nets.settle(net);
        for (int i = 0; i < 40; i++) {
            net.inject(0, 0, 4);
            if (i == 0) {
                net.spoil(0, 0, 0);
            }
            Due.answer("packet " + i, net.deliver(0, 0), i == 0 ? 12 : 4);
        }
    }
}
