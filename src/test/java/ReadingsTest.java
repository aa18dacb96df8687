/** Sentences that can be read in more than one way: each method shows how one of them was read. */
public final class ReadingsTest {
    public static void main(String[] args) {
        hopBesideAnotherLink();
        hopByAnotherRouter();
        lostMappingWasPut();
        mappingsOfTheLastCheck();
        egressOfTheLastCheck();
        linkNotLaidHasEmptyQueues();
        labelLooksAtItsLinkForTheMappingAlone();
        releaseInUseCounts();
        releaseCountsAgain();
        Due.end();
    }

    private static void laid(LabelNet net, int link, int a, int b, int cost) {
        net.lay(link, a, b, cost);
        net.turn(link, true);
    }

    // ---- 1. "the least link that is UP at it and in its own known record, with which the way begins:
    // the link's cost and the distance from its other end are the DISTANCE"

    /** The other end's record need not say yet that the HOP is UP; a step, and so the DISTANCE, needs both. */
    private static void hopBesideAnotherLink() {
        LabelNet net = new LabelNet(2);
        net.lay(0, 0, 1, 4);
        net.lay(1, 0, 1, 4);
        net.lay(2, 0, 1, 3);
        net.turn(1, true);
        Nets.settle(net);
        Nets.dueWay(net, 0, 1, 4, 1);
        net.turn(0, true);
        Nets.dueWay(net, 0, 1, 4, 0);
        net.turn(2, true);
        Nets.dueWay(net, 0, 1, 4, 0);
        Nets.settle(net);
        Nets.dueWay(net, 0, 1, 3, 2);
    }

    /** As above, and the new link leads to another router, from which the rest is as long as it must be. */
    private static void hopByAnotherRouter() {
        LabelNet net = new LabelNet(4);
        laid(net, 1, 0, 1, 2);
        laid(net, 2, 1, 2, 2);
        laid(net, 3, 2, 3, 3);
        Nets.settle(net);
        Nets.dueWay(net, 0, 2, 4, 1);
        Nets.dueWay(net, 0, 3, 7, 1);
        laid(net, 0, 0, 3, 1);
        Nets.dueWay(net, 0, 2, 4, 0);
        Nets.dueWay(net, 0, 3, 7, 1);
        net.deliver(0, 1);
        Nets.dueWay(net, 0, 2, 4, 0);
        Nets.dueWay(net, 0, 3, 1, 0);
    }

    // ---- 2. "until all links to which its MAPPING was put, .. have brought a RELEASE of it"

    /** Link 1 is full when router 1's MAPPING is put to it: the label waits for its RELEASE all the same. */
    private static void lostMappingWasPut() {
        LabelNet net = Nets.line(3);
        net.attach(7, 2);
        Nets.settle(net);
        for (int i = 0; i < 16; i++) {
            net.inject(1, 7, 9);
        }
        net.attach(0, 0);
        net.deliver(0, 0);
        net.deliver(0, 0);
        Due.answer("label(1, 0, -1, 1)", net.label(1, 0, -1, 1), 17);
        Due.answer("count(1, 1), a NOTE and a MAPPING", net.count(1, 1), 2);
        Nets.dueNext(net, 0, 1, 1, 0, 17, 3);
        Nets.dueNext(net, 0, 0, 3, 0, 17, 0);
        net.attach(0, -1);
        net.deliver(0, 0);
        Due.answer("label(1, 0, -1, 1)", net.label(1, 0, -1, 1), -1);
        Due.answer("count(1, 0)", net.count(1, 0), 2);
        net.turn(1, false);
        Due.answer("count(1, 0): 16 waits for link 0 alone, 17 for none", net.count(1, 0), 1);
    }

    // ---- 3. "When a link comes UP, each end puts MAPPINGs of all prefixes for which it is ACTIVE to it."

    /**
     * In a ring router 2 goes by link 1, then by link 2 while that is down, and by link 1 again when it
     * comes UP, by router 1's old record: what it mapped is put first, and withdrawn by the CHECK behind.
     */
    private static void mappingsOfTheLastCheck() {
        LabelNet net = Nets.ring(0);
        net.turn(1, false);
        Due.answer("label(2, 0, -1, 1)", net.label(2, 0, -1, 1), 16);
        Due.answer("label(2, 0, -1, 2)", net.label(2, 0, -1, 2), 5);
        net.turn(1, true);
        Due.answer("way(2, 0, 1)", net.way(2, 0, 1), 1);
        Due.answer("label(2, 0, -1, 1), link 1 brought no mapping", net.label(2, 0, -1, 1), -1);
        Due.answer("queue(1, 1, 0)", net.queue(1, 1, 0), 5);
        Nets.dueNext(net, 1, 1, 0, 2, 5, 0);
        Nets.dueNext(net, 1, 1, 0, 0, net.knows(2, 0), 0);
        Nets.dueNext(net, 1, 1, 0, 1, 3, 0);
        Nets.dueNext(net, 1, 1, 1, 0, 16, 5);
        Nets.dueNext(net, 1, 1, 2, 0, 16, 0);
    }

    /** Router 1 is the EGRESS while the link to router 0 is down, whose old record has the prefix too. */
    private static void egressOfTheLastCheck() {
        LabelNet net = Nets.line(2);
        net.attach(4, 0);
        Nets.settle(net);
        net.turn(0, false);
        net.attach(4, 1);
        Due.answer("label(1, 4, -1, 1)", net.label(1, 4, -1, 1), 3);
        net.turn(0, true);
        Due.answer("label(1, 4, -1, 0)", net.label(1, 4, -1, 0), 0);
        Due.answer("label(1, 4, -1, 1)", net.label(1, 4, -1, 1), -1);
        Due.answer("queue(0, 1, 0)", net.queue(0, 1, 0), 4);
        Nets.dueNext(net, 0, 1, 0, 1, 5, 0);
        Nets.dueNext(net, 0, 1, 0, 0, 3, 0);
        Nets.dueNext(net, 0, 1, 1, 4, 3, 2);
        Nets.dueNext(net, 0, 1, 2, 4, 3, 0);
    }

    // ---- 4. "How many messages wait at an end of a link (what = 0)"

    private static void linkNotLaidHasEmptyQueues() {
        LabelNet net = Nets.pair();
        for (int link = 0; link < 12; link++) {
            for (int end = 0; end < 2; end++) {
                String at = link + ", " + end + ", ";
                Due.answer("queue(" + at + "0)", net.queue(link, end, 0), 0);
                for (int what = 1; what < 5; what++) {
                    Due.answer("queue(" + at + what + ")", net.queue(link, end, what), -1);
                }
                Due.answer("deliver(" + at + ")", net.deliver(link, end), -1);
                Due.answer("spoil(" + at + "0)", net.spoil(link, end, 0), false);
            }
        }
    }

    // ---- 5. "the label (3) and path (4) of the mapping that a link brought it (link: NONE for the HOP ..)"

    private static void labelLooksAtItsLinkForTheMappingAlone() {
        LabelNet net = Nets.line(3);
        net.attach(6, 2);
        Nets.settle(net);
        for (int link : new int[] {-1, 0, 1, 2, 11, 12, -2, Integer.MIN_VALUE, Integer.MAX_VALUE}) {
            String of = "label(1, 6, " + link + ", ";
            Due.answer(of + "0)", net.label(1, 6, link, 0), 2);
            Due.answer(of + "1)", net.label(1, 6, link, 1), 16);
            Due.answer(of + "2)", net.label(1, 6, link, 2), 6);
            boolean brought = link == -1 || link == 1;
            Due.answer(of + "3)", net.label(1, 6, link, 3), brought ? 3 : -1);
            Due.answer(of + "4)", net.label(1, 6, link, 4), brought ? 4 : -1);
        }
    }

    // ---- 6. "RELEASE comes: as above, of that label of that prefix, if it is in use"

    /** A RELEASE that came while the label's prefix was ACTIVE counts when it is withdrawn later. */
    private static void releaseInUseCounts() {
        LabelNet net = Nets.line(3);
        net.attach(0, 0);
        Nets.settle(net);
        net.attach(0, -1);
        net.deliver(0, 0);
        Due.answer("label(1, 0, -1, 1), withdrawn", net.label(1, 0, -1, 1), -1);
        Nets.dueNext(net, 0, 1, 2, 0, 16, 0);
        Nets.dueNext(net, 0, 0, 2, 0, 3, 0);
        Nets.dueNext(net, 0, 0, 3, 0, 16, 0);
        Due.answer("link 0 released twice, link 1 never: count(1, 0)", net.count(1, 0), 1);
        LabelNet other = Nets.line(3);
        other.attach(0, 0);
        Nets.settle(other);
        other.attach(0, -1);
        other.deliver(0, 0);
        Nets.deliverAll(other, 1, 0);
        Due.answer("count(1, 0)", other.count(1, 0), 1);
        Nets.deliverAll(other, 1, 1);
        Due.answer("link 0 had released before, and link 1 now: count(1, 0)", other.count(1, 0), 0);
        Nets.deliverAll(other, 0, 1);
        Nets.deliverAll(other, 0, 0);
        Due.answer("link 0's RELEASE of a label that is not in use: count(1, 0)", other.count(1, 0), 0);
    }

    /**
     * Router 1 hears by link 0 alone. Its label 17 (prefix 6) is in use, and link 0 has released it twice,
     * as its MAPPING was put twice. A CHECK gave prefix 0 no label, as none was free, and freed one for
     * prefix 7 then, that stands behind: the CHECK behind the second RELEASE gives it to prefix 0.
     */
    private static void releaseCountsAgain() {
        LabelNet net = new LabelNet(5);
        laid(net, 0, 0, 1, 1);
        laid(net, 1, 0, 2, 9);
        laid(net, 2, 0, 3, 1);
        laid(net, 3, 3, 2, 1);
        laid(net, 4, 0, 4, 2);
        laid(net, 5, 4, 2, 2);
        Nets.settle(net);
        net.attach(7, 0);
        Nets.settle(net);
        net.attach(6, 2);
        Nets.settle(net);
        Due.answer("label(1, 7, -1, 1)", net.label(1, 7, -1, 1), 16);
        Due.answer("label(1, 6, -1, 1)", net.label(1, 6, -1, 1), 17);
        net.turn(2, false);
        net.turn(4, false);
        Nets.deliverAll(net, 0, 0);
        Due.answer("two MAPPINGs: queue(0, 1, 0)", net.queue(0, 1, 0), 2);
        Nets.dueNext(net, 0, 1, 1, 6, 17, 23);
        Nets.dueNext(net, 0, 0, 3, 6, 17, 0);
        for (int i = 0; i < 15; i++) {
            net.inject(1, 7, 1);
        }
        useLabels(net, 18, 79);
        net.attach(0, 0);
        Nets.deliverAll(net, 0, 0);
        Due.answer("none is free: label(1, 0, -1, 1)", net.label(1, 0, -1, 1), -1);
        Due.answer("count(1, 0)", net.count(1, 0), 64);
        net.attach(7, -1);
        net.spoil(0, 0, 1);
        Nets.deliverAll(net, 0, 0);
        Due.answer("16 is free: count(1, 0)", net.count(1, 0), 63);
        Due.answer("no CHECK came behind: label(1, 0, -1, 1)", net.label(1, 0, -1, 1), -1);
        Nets.dueNext(net, 0, 1, 1, 6, 17, 7);
        Nets.dueNext(net, 0, 0, 3, 6, 17, 0);
        Due.answer("a CHECK came: label(1, 0, -1, 1)", net.label(1, 0, -1, 1), 16);
        Due.answer("count(1, 0)", net.count(1, 0), 64);
    }

    /** Router 1 takes labels for prefixes 0 to 5, and what it sends is lost, so that none is released. */
    private static void useLabels(LabelNet net, int first, int last) {
        for (int label = first; label <= last; label += 6) {
            int many = Math.min(6, last - label + 1);
            for (int prefix = 0; prefix < many; prefix++) {
                net.attach(prefix, 0);
            }
            net.run(2 * many);
            Due.answer("label(1, " + (many - 1) + ", -1, 1)", net.label(1, many - 1, -1, 1), label + many - 1);
            for (int prefix = 0; prefix < many; prefix++) {
                net.attach(prefix, -1);
            }
            net.run(2 * many);
        }
        Due.answer("count(1, 0)", net.count(1, 0), last - 15);
    }
}
