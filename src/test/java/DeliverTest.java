/** Promise 5: deliver, and what a NOTE, a MAPPING, a WITHDRAW and a RELEASE do when they come. */
public final class DeliverTest {
    private static final Class<IndexOutOfBoundsException> INDEX = IndexOutOfBoundsException.class;

    public static void main(String[] args) {
        wrong();
        firstFirst();
        noteGoesOn();
        ownNoteComesBack();
        olderNoteIsAnswered();
        mappingInARing();
        mappingTakesAway();
        releaseOfAnotherPrefix();
        releaseOfThree();
        withdrawOfAnotherLabel();
        withdrawOfNoMapping();
        releaseBeforeTheCheck();
        Due.end();
    }

    private static void wrong() {
        LabelNet net = Nets.pair();
        Due.thrown(net, "deliver(-1, 0)", INDEX, () -> net.deliver(-1, 0));
        Due.thrown(net, "deliver(12, 0)", INDEX, () -> net.deliver(12, 0));
        Due.thrown(net, "deliver(0, -1)", INDEX, () -> net.deliver(0, -1));
        Due.thrown(net, "deliver(0, 2)", INDEX, () -> net.deliver(0, 2));
        Due.answer("deliver(0, 0), down", net.deliver(0, 0), -1);
        Due.answer("deliver(11, 1), not laid", net.deliver(11, 1), -1);
        net.turn(0, true);
        Nets.settle(net);
        Due.answer("deliver(0, 1), none waits", net.deliver(0, 1), -1);
    }

    private static void firstFirst() {
        LabelNet net = Nets.pair();
        net.attach(6, 1);
        net.turn(0, true);
        Due.answer("NOTE", net.deliver(0, 1), 0);
        Due.answer("knows(0, 1)", net.knows(0, 1), 3);
        Due.answer("way(0, 1, 0): its record says UP, and mine", net.way(0, 1, 0), 1);
        Due.answer("way(1, 0, 0): nothing came yet", net.way(1, 0, 0), -1);
        Due.answer("MAPPING", net.deliver(0, 1), 1);
        Due.answer("label(0, 6, 0, 3)", net.label(0, 6, 0, 3), 3);
        Due.answer("label(0, 6, -1, 1)", net.label(0, 6, -1, 1), 16);
        net.inject(0, 6, 1);
        Due.answer("NOTE of router 0", net.deliver(0, 0), 0);
        Due.answer("MAPPING back", net.deliver(0, 0), 1);
        Due.answer("PACKET", net.deliver(0, 0), 4);
        Due.answer("it is DELIVERED", net.packet(0, 0), 1);
        Due.answer("RELEASE", net.deliver(0, 1), 3);
        net.attach(6, -1);
        Due.answer("NOTE of router 1", net.deliver(0, 1), 0);
        Due.answer("WITHDRAW", net.deliver(0, 1), 2);
        Due.answer("none waits", net.deliver(0, 1), -1);
    }

    /** A NOTE that is known now goes on, but not where it came from; the same one again does nothing. */
    private static void noteGoesOn() {
        LabelNet net = new LabelNet(4);
        net.lay(0, 0, 1, 1);
        net.lay(1, 1, 2, 1);
        net.lay(2, 2, 0, 1);
        net.lay(3, 1, 3, 1);
        for (int link = 0; link < 4; link++) {
            net.turn(link, true);
        }
        Nets.settle(net);
        net.attach(0, 0);
        int number = net.knows(0, 0);
        Nets.dueNext(net, 0, 0, 0, 0, number, 0);
        Due.answer("not back: queue(0, 1, 0)", net.queue(0, 1, 0), 0);
        Nets.dueFirst(net, 1, 0, 0, 0, number, 0);
        Nets.dueFirst(net, 3, 0, 0, 0, number, 0);
        Nets.dueNext(net, 2, 0, 0, 0, number, 0);
        Nets.dueFirst(net, 1, 1, 0, 0, number, 0);
        Nets.dueNext(net, 1, 1, 0, 0, number, 0);
        Due.answer("the same again: queue(3, 0, 0)", net.queue(3, 0, 0), 1);
        Due.answer("the same again: queue(1, 0, 0)", net.queue(1, 0, 0), 1);
    }

    /** Round the ring router 0's own record comes back to it, with the number that it has: nothing. */
    private static void ownNoteComesBack() {
        LabelNet net = Nets.ring(1);
        net.attach(4, 0);
        int number = net.knows(0, 0);
        Nets.dueNext(net, 0, 0, 0, 0, number, 0);
        Nets.dueNext(net, 1, 0, 0, 0, number, 0);
        int[] waiting = {net.queue(0, 0, 0), net.queue(2, 0, 0)};
        Nets.dueNext(net, 2, 1, 0, 0, number, 0);
        Due.answer("knows(0, 0)", net.knows(0, 0), number);
        Due.answer("none goes on: queue(0, 0, 0)", net.queue(0, 0, 0), waiting[0]);
        Due.answer("none goes back: queue(2, 0, 0)", net.queue(2, 0, 0), waiting[1]);
    }

    private static void olderNoteIsAnswered() {
        LabelNet net = Nets.line(3);
        net.turn(1, false);
        net.attach(0, 0);
        Nets.settle(net);
        net.turn(1, true);
        Due.answer("knows(2, 0), the old one", net.knows(2, 0), 2);
        Nets.dueNext(net, 1, 1, 0, 2, 4, 0);
        int waiting = net.queue(1, 0, 0);
        Nets.dueNext(net, 1, 1, 0, 0, 2, 0);
        Due.answer("knows(1, 0)", net.knows(1, 0), 3);
        Due.answer("a NOTE more goes back", net.queue(1, 0, 0), waiting + 1);
        Nets.dueNext(net, 1, 1, 0, 1, 3, 0);
        Due.answer("its own record: none goes back", net.queue(1, 0, 0), waiting + 1);
        for (int i = 1; i < waiting; i++) {
            net.deliver(1, 0);
        }
        net.deliver(1, 0);
        Nets.dueFirst(net, 1, 0, 0, 0, 3, 0);
    }

    /** A MAPPING whose path has the router is released at once. */
    private static void mappingInARing() {
        LabelNet net = Nets.ring(0);
        Due.answer("label(2, 0, -1, 2)", net.label(2, 0, -1, 2), 7);
        Due.answer("router 1 does not have 2's: its path leads by 1", net.label(1, 0, 1, 3), -1);
        Due.answer("router 0 has none by link 2", net.label(0, 0, 2, 3), -1);
        net.turn(0, false);
        Nets.settle(net);
        Due.answer("label(2, 0, -1, 2), the other way round", net.label(2, 0, -1, 2), 5);
        Due.answer("label(1, 0, 1, 4): now it has 2's", net.label(1, 0, 1, 4), 5);
        Due.answer("label(1, 0, -1, 2)", net.label(1, 0, -1, 2), 7);
        net.turn(0, true);
        Nets.settle(net);
        Due.answer("label(2, 0, -1, 2), again", net.label(2, 0, -1, 2), 7);
        Due.answer("label(1, 0, 1, 4): forgotten", net.label(1, 0, 1, 4), -1);
    }

    /** A MAPPING of the same label, but with a path that has the router: the one before is forgotten. */
    private static void mappingTakesAway() {
        LabelNet net = Nets.ring(0);
        net.turn(0, false);
        Nets.settle(net);
        Due.answer("label(1, 0, 1, 4)", net.label(1, 0, 1, 4), 5);
        net.turn(0, true);
        settleLink(net, 0);
        // Router 2 has router 1's mapping before it hears of router 0's new link.
        for (int i = 0; i < 16 && net.queue(1, 0, 0) > 0; i++) {
            if (net.queue(1, 0, 1) == 0 && net.queue(1, 0, 2) == 0) {
                net.spoil(1, 0, 0);
            }
            net.deliver(1, 0);
        }
        Due.answer("label(2, 0, 1, 4)", net.label(2, 0, 1, 4), 3);
        Due.answer("label(2, 0, -1, 2)", net.label(2, 0, -1, 2), 5);
        net.deliver(2, 0);
        Due.answer("label(2, 0, -1, 2)", net.label(2, 0, -1, 2), 7);
        for (int i = 0; i < 16 && net.queue(1, 1, 1) != 1; i++) {
            net.deliver(1, 1);
        }
        Due.answer("label(1, 0, 1, 3)", net.label(1, 0, 1, 3), 16);
        Nets.dueNext(net, 1, 1, 1, 0, 16, 7);
        Due.answer("label(1, 0, 1, 3), forgotten", net.label(1, 0, 1, 3), -1);
        Due.answer("label(1, 0, 1, 4), forgotten", net.label(1, 0, 1, 4), -1);
    }

    /** Label 16 was prefix 0's and is prefix 1's now: a late RELEASE for prefix 0 does not count. */
    private static void releaseOfAnotherPrefix() {
        LabelNet net = Nets.line(2);
        net.attach(0, 0);
        Nets.settle(net);
        net.attach(0, -1);
        net.deliver(0, 0);
        net.deliver(0, 0);
        Due.answer("count(1, 0): router 0 has released 16 before", net.count(1, 0), 0);
        net.attach(1, 0);
        net.deliver(0, 0);
        net.deliver(0, 0);
        Due.answer("label(1, 1, -1, 1)", net.label(1, 1, -1, 1), 16);
        Nets.dueNext(net, 0, 1, 2, 0, 16, 0);
        net.attach(1, -1);
        Nets.dueNext(net, 0, 0, 3, 0, 16, 0);
        Due.answer("NOTE", net.deliver(0, 0), 0);
        Due.answer("label(1, 1, -1, 1)", net.label(1, 1, -1, 1), -1);
        Due.answer("count(1, 0): prefix 1's 16 is not released", net.count(1, 0), 1);
        Nets.settle(net);
        Due.answer("count(1, 0)", net.count(1, 0), 0);
    }

    /** Label 3 is never in use: its RELEASE does nothing. */
    private static void releaseOfThree() {
        LabelNet net = Nets.line(2);
        net.attach(0, 0);
        Nets.settle(net);
        net.attach(0, -1);
        Due.answer("count(0, 0)", net.count(0, 0), 0);
        net.deliver(0, 0);
        net.deliver(0, 0);
        net.deliver(0, 1);
        net.attach(0, 0);
        int waiting = net.queue(0, 0, 0);
        Nets.dueNext(net, 0, 1, 3, 0, 3, 0);
        Due.answer("count(0, 0)", net.count(0, 0), 0);
        Due.answer("label(0, 0, -1, 1)", net.label(0, 0, -1, 1), 3);
        Due.answer("queue(0, 0, 0)", net.queue(0, 0, 0), waiting);
    }

    /** Router 0 has router 1's mapping of 3, and a WITHDRAW of 16 comes, of which it never had a mapping. */
    private static void withdrawOfAnotherLabel() {
        LabelNet net = Nets.line(3);
        net.attach(0, 1);
        Nets.settle(net);
        net.attach(0, 2);
        settleLink(net, 1);
        net.attach(0, -1);
        settleLink(net, 1);
        Due.answer("queue(0, 1, 0)", net.queue(0, 1, 0), 6);
        net.spoil(0, 1, 1);
        net.spoil(0, 1, 3);
        Nets.dueNext(net, 0, 1, 0, 1, 5, 0);
        Nets.dueNext(net, 0, 1, 10, 0, 3, 0);
        Nets.dueNext(net, 0, 1, 0, 2, 3, 0);
        Nets.dueNext(net, 0, 1, 9, 0, 16, 6);
        Nets.dueNext(net, 0, 1, 0, 2, 4, 0);
        Due.answer("label(0, 0, 0, 3)", net.label(0, 0, 0, 3), 3);
        int waiting = net.queue(0, 0, 0);
        Nets.dueNext(net, 0, 1, 2, 0, 16, 0);
        Due.answer("label(0, 0, 0, 3), still", net.label(0, 0, 0, 3), 3);
        Due.answer("a RELEASE goes back in any case", net.queue(0, 0, 0), waiting + 1);
        for (int i = 0; i < waiting; i++) {
            net.deliver(0, 0);
        }
        Nets.dueFirst(net, 0, 0, 3, 0, 16, 0);
    }

    /** Router 1's MAPPING led by router 0, so that router 0 has none; the WITHDRAW asks for a RELEASE all the same. */
    private static void withdrawOfNoMapping() {
        LabelNet net = Nets.line(2);
        net.attach(0, 0);
        Nets.settle(net);
        net.attach(0, -1);
        net.deliver(0, 0);
        Due.answer("label(0, 0, 0, 3)", net.label(0, 0, 0, 3), -1);
        Due.answer("queue(0, 0, 0)", net.queue(0, 0, 0), 1);
        Nets.dueNext(net, 0, 1, 2, 0, 16, 0);
        Due.answer("queue(0, 0, 0)", net.queue(0, 0, 0), 2);
        Nets.dueNext(net, 0, 0, 2, 0, 3, 0);
        Nets.dueFirst(net, 0, 0, 3, 0, 16, 0);
    }

    /** Router 1 is ACTIVE until the WITHDRAW comes: first the RELEASE goes back, then the CHECK is made. */
    private static void releaseBeforeTheCheck() {
        LabelNet net = Nets.line(2);
        net.attach(0, 0);
        Nets.settle(net);
        net.attach(0, -1);
        net.spoil(0, 0, 0);
        Nets.dueNext(net, 0, 0, 8, 0, 4, 0);
        Nets.dueNext(net, 0, 0, 2, 0, 3, 0);
        Due.answer("label(1, 0, -1, 1)", net.label(1, 0, -1, 1), -1);
        Nets.dueNext(net, 0, 1, 3, 0, 3, 0);
        Nets.dueNext(net, 0, 1, 2, 0, 16, 0);
    }

    private static void settleLink(LabelNet net, int link) {
        for (int i = 0; i < 40; i++) {
            net.deliver(link, i % 2);
        }
    }
}
