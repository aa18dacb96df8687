/** Promise 8: inject, and how packets go. */
public final class InjectTest {
    private static final Class<IndexOutOfBoundsException> INDEX = IndexOutOfBoundsException.class;
    private static final Class<IllegalArgumentException> ARGUMENT = IllegalArgumentException.class;

    public static void main(String[] args) {
        wrong();
        sixtyFour();
        byLabels();
        eachPrefixByItsLabel();
        withoutMapping();
        noLabel();
        labelWhereItIsAttached();
        labelOfAnotherPrefix();
        ttl();
        full();
        round();
        Due.end();
    }

    private static void wrong() {
        LabelNet net = new LabelNet(3);
        Due.thrown(net, "inject(-1, 0, 1)", INDEX, () -> net.inject(-1, 0, 1));
        Due.thrown(net, "inject(3, 0, 1)", INDEX, () -> net.inject(3, 0, 1));
        Due.thrown(net, "inject(0, -1, 1)", INDEX, () -> net.inject(0, -1, 1));
        Due.thrown(net, "inject(0, 8, 1)", INDEX, () -> net.inject(0, 8, 1));
        Due.thrown(net, "inject(0, 8, 61)", INDEX, () -> net.inject(0, 8, 61));
        Due.thrown(net, "inject(0, 0, -1)", ARGUMENT, () -> net.inject(0, 0, -1));
        Due.thrown(net, "inject(0, 0, 61)", ARGUMENT, () -> net.inject(0, 0, 61));
        Due.answer("the first number", net.inject(0, 0, 0), 0);
        Due.answer("the second number", net.inject(2, 7, 60), 1);
    }

    private static void sixtyFour() {
        LabelNet net = new LabelNet(2);
        for (int i = 0; i < 64; i++) {
            Due.answer("number " + i, net.inject(i % 2, i % 8, i % 61), i);
        }
        Due.thrown(net, "inject(0, 0, 1), the 65th", ARGUMENT, () -> net.inject(0, 0, 1));
        Due.thrown(net, "inject(2, 0, 1), the 65th", INDEX, () -> net.inject(2, 0, 1));
        Due.answer("packet(63, 2)", net.packet(63, 2), 2);
    }

    private static LabelNet lineTo3() {
        LabelNet net = Nets.line(4);
        net.attach(5, 3);
        Nets.settle(net);
        return net;
    }

    /** Other labels at each router: prefix 1 takes 16 of routers 0 and 1 first. */
    private static void byLabels() {
        LabelNet net = Nets.line(4);
        net.attach(1, 2);
        Nets.settle(net);
        net.attach(5, 3);
        Nets.settle(net);
        Due.answer("label(0, 5, -1, 3)", net.label(0, 5, -1, 3), 17);
        Due.answer("label(1, 5, -1, 3)", net.label(1, 5, -1, 3), 16);
        net.inject(0, 5, 60);
        Due.answer("under way", net.packet(0, 0), 0);
        Nets.dueNext(net, 0, 0, 4, 0, 17, 0);
        Due.answer("packet(0, 1)", net.packet(0, 1), 1);
        Nets.dueNext(net, 1, 0, 4, 0, 16, 0);
        Nets.dueNext(net, 2, 0, 4, 0, -1, 0);
        Due.answer("DELIVERED", net.packet(0, 0), 1);
        Due.answer("packet(0, 1)", net.packet(0, 1), 3);
        Due.answer("packet(0, 2)", net.packet(0, 2), 57);
        Due.answer("packet(0, 3)", net.packet(0, 3), -1);
        net.inject(3, 5, 0);
        Due.answer("DELIVERED where it is attached", net.packet(1, 0), 1);
        net.inject(3, 4, 9);
        Due.answer("no WAY", net.packet(2, 0), 2);
        Due.answer("its TTL is as it was", net.packet(2, 2), 9);
    }

    /** Prefixes come in the order 7 to 0, so that labels and prefixes are not in the same order. */
    private static void eachPrefixByItsLabel() {
        LabelNet net = Nets.line(3);
        for (int prefix = 7; prefix >= 0; prefix--) {
            net.attach(prefix, 2);
            Nets.settle(net);
        }
        for (int prefix = 0; prefix < 8; prefix++) {
            Due.answer("inject(0, " + prefix + ", 2)", net.inject(0, prefix, 2), prefix);
            Nets.dueNext(net, 0, 0, 4, prefix, 23 - prefix, 0);
            Nets.dueNext(net, 1, 0, 4, prefix, -1, 0);
            Due.answer("DELIVERED", net.packet(prefix, 0), 1);
            Due.answer("packet(" + prefix + ", 1)", net.packet(prefix, 1), 2);
            Due.answer("packet(" + prefix + ", 4)", net.packet(prefix, 4), prefix);
        }
    }

    /** The EGRESS is known, the mapping did not come: the packet goes without a label. */
    private static void withoutMapping() {
        LabelNet net = Nets.line(3);
        net.attach(0, 2);
        Nets.dueNext(net, 1, 1, 0, 2, 3, 0);
        Nets.dueNext(net, 0, 1, 0, 2, 3, 0);
        net.inject(0, 0, 5);
        Nets.dueNext(net, 0, 0, 4, 0, -1, 0);
        Nets.dueNext(net, 1, 0, 4, 0, -1, 0);
        Due.answer("DELIVERED", net.packet(0, 0), 1);
        net.inject(1, 0, 5);
        net.attach(0, -1);
        Nets.dueNext(net, 1, 0, 4, 1, -1, 0);
        Due.answer("not attached any more, no WAY", net.packet(1, 0), 2);
        Due.answer("packet(1, 1)", net.packet(1, 1), 2);
    }

    private static void noLabel() {
        LabelNet net = lineTo3();
        net.inject(0, 5, 0);
        Due.answer("no TTL to go", net.packet(0, 0), 4);
        net.inject(0, 5, 1);
        net.turn(1, false);
        Nets.dueNext(net, 0, 0, 4, 1, 16, 0);
        Due.answer("no LABEL", net.packet(1, 0), 3);
        Due.answer("packet(1, 1)", net.packet(1, 1), 1);
        Due.answer("packet(1, 2)", net.packet(1, 2), 0);
        Due.answer("packet(1, 3), as when it was last put", net.packet(1, 3), 16);
        net.inject(1, 5, 0);
        Due.answer("no WAY comes before TTL", net.packet(2, 0), 2);
    }

    /** The prefix comes to router 1 while a packet is under way to it: its label is not 1's any more. */
    private static void labelWhereItIsAttached() {
        LabelNet net = lineTo3();
        net.inject(0, 5, 9);
        net.attach(5, 1);
        Nets.dueNext(net, 0, 0, 4, 0, 16, 0);
        Due.answer("no LABEL, though the prefix is attached here", net.packet(0, 0), 3);
        Due.answer("packet(0, 1)", net.packet(0, 1), 1);
        net.inject(1, 5, 0);
        Due.answer("DELIVERED without a label", net.packet(1, 0), 1);
    }

    /**
     * Router 0 releases router 1's label 16 twice: the second RELEASE comes when 16 is prefix 5's anew and
     * counts for it, so that 16 becomes prefix 6's while a packet for prefix 5 is under way with it.
     */
    private static void labelOfAnotherPrefix() {
        LabelNet net = Nets.line(3);
        net.attach(5, 0);
        Nets.settle(net);
        net.attach(5, -1);
        net.deliver(0, 0);
        Nets.deliver(net, 1, 0, 2);
        Nets.deliver(net, 1, 1, 2);
        Due.answer("count(1, 0): 16 is free", net.count(1, 0), 0);
        Nets.dueNext(net, 0, 0, 2, 5, 3, 0);
        Nets.dueNext(net, 0, 1, 2, 5, 16, 0);
        net.attach(5, 2);
        Nets.deliver(net, 1, 1, 2);
        Due.answer("label(1, 5, -1, 1)", net.label(1, 5, -1, 1), 16);
        Nets.dueNext(net, 0, 0, 3, 5, 16, 0);
        Nets.deliverAll(net, 1, 0);
        Nets.deliverAll(net, 1, 1);
        Nets.deliverAll(net, 0, 1);
        net.inject(0, 5, 9);
        Due.answer("packet(0, 3)", net.packet(0, 3), 16);
        net.attach(5, -1);
        Nets.deliver(net, 1, 1, 1);
        Due.answer("count(1, 0): 16 is free again", net.count(1, 0), 0);
        net.attach(6, 2);
        Nets.deliver(net, 1, 1, 3);
        Due.answer("label(1, 6, -1, 1)", net.label(1, 6, -1, 1), 16);
        Due.answer("label(1, 5, -1, 0)", net.label(1, 5, -1, 0), -1);
        for (int i = 0; i < 16 && net.queue(0, 0, 1) != 4; i++) {
            net.deliver(0, 0);
        }
        Nets.dueNext(net, 0, 0, 4, 0, 16, 0);
        Due.answer("it goes by prefix 6's HOP", net.packet(0, 0), 0);
        Due.answer("packet(0, 3)", net.packet(0, 3), -1);
        Due.answer("packet(0, 4)", net.packet(0, 4), 5);
        Nets.settle(net);
        Due.answer("no WAY", net.packet(0, 0), 2);
        Due.answer("packet(0, 1)", net.packet(0, 1), 2);
    }

    private static void ttl() {
        LabelNet net = lineTo3();
        net.inject(0, 5, 2);
        net.inject(0, 5, 3);
        Due.answer("run(500)", net.run(500), 5);
        Due.answer("over at router 2", net.packet(0, 0), 4);
        Due.answer("packet(0, 1)", net.packet(0, 1), 2);
        Due.answer("packet(0, 2)", net.packet(0, 2), 0);
        Due.answer("packet(0, 3)", net.packet(0, 3), 16);
        Due.answer("just enough", net.packet(1, 0), 1);
        Due.answer("packet(1, 2)", net.packet(1, 2), 0);
    }

    private static void full() {
        LabelNet net = lineTo3();
        for (int i = 0; i < 16; i++) {
            net.inject(0, 5, 9);
        }
        Due.answer("queue(0, 0, 0)", net.queue(0, 0, 0), 16);
        net.inject(0, 5, 9);
        Due.answer("queue(0, 0, 0)", net.queue(0, 0, 0), 16);
        Due.answer("FULL", net.packet(16, 0), 5);
        Due.answer("packet(16, 1)", net.packet(16, 1), 0);
        Due.answer("packet(16, 2)", net.packet(16, 2), 8);
        Due.answer("packet(16, 3)", net.packet(16, 3), -1);
        Due.answer("count(0, 1): packets are not counted", net.count(0, 1), 0);
        net.inject(0, 5, 0);
        Due.answer("TTL comes before FULL", net.packet(17, 0), 4);
        for (int i = 0; i < 16; i++) {
            net.inject(1, 5, 9);
        }
        net.deliver(0, 0);
        Due.answer("FULL on its way", net.packet(0, 0), 5);
        Due.answer("packet(0, 1)", net.packet(0, 1), 1);
        Due.answer("packet(0, 2)", net.packet(0, 2), 7);
        Due.answer("packet(0, 3), as when it was last put", net.packet(0, 3), 16);
        net.inject(0, 5, 9);
        Due.answer("there is room again", net.packet(34, 0), 0);
        Due.answer("packet(34, 3)", net.packet(34, 3), 16);
    }

    /** Router 0 does not hear that link 1 is down: it and router 1 send a packet to and fro. */
    private static void round() {
        LabelNet net = Nets.ring(2);
        net.turn(1, false);
        net.spoil(0, 1, 0);
        Nets.dueNext(net, 0, 1, 8, 1, 4, 0);
        Nets.dueNext(net, 0, 1, 2, 0, 16, 0);
        net.inject(1, 0, 6);
        for (int i = 0; i < 3; i++) {
            Due.answer("under way", net.packet(0, 0), 0);
            deliverPacket(net, 1);
            Due.answer("packet(0, 1)", net.packet(0, 1), 0);
            deliverPacket(net, 0);
            Due.answer("packet(0, 1)", net.packet(0, 1), 1);
            Due.answer("packet(0, 2)", net.packet(0, 2), i < 2 ? 3 - 2 * i : 0);
        }
        Due.answer("its TTL is over", net.packet(0, 0), 4);
    }

    /** Delivers the first packet at an end of link 0, with all before it spoiled. */
    private static void deliverPacket(LabelNet net, int end) {
        for (int i = 0; i < 16 && net.queue(0, end, 1) != 4; i++) {
            net.spoil(0, end, 0);
            net.deliver(0, end);
        }
        Due.answer("a PACKET", net.deliver(0, end), 4);
    }
}
