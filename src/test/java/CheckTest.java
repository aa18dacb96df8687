/**
 * "(Behind each of these, and behind each MAPPING and WITHDRAW that comes, each NOTE that is known then, each
 * RELEASE that counts, a router CHECKS ..)", and behind nothing else. A CHECK more is seen only where it has
 * something to do that the one before could not: prefix 0 was without a label, as none was free, when that
 * CHECK freed one for prefix 7, which stands behind.
 */
public final class CheckTest {
    /** Link 0 lies beside it and is shorter, so that no way leads over it. */
    private static final int BESIDE = 6;

    public static void main(String[] args) {
        nothingElseChecks();
        packetDoesNotCheck();
        releaseOfAFreeLabelDoesNotCheck();
        releaseChecks();
        mappingChecks();
        withdrawChecks();
        noteChecks();
        attachChecks();
        linkChecks();
        Due.end();
    }

    private static void without(LabelNet net, String behind) {
        Due.answer("label(0, 0, -1, 1), no CHECK behind " + behind, net.label(0, 0, -1, 1), -1);
        Due.answer("label(0, 0, -1, 3), behind " + behind, net.label(0, 0, -1, 3), 3);
        Due.answer("count(0, 0), behind " + behind, net.count(0, 0), 63);
    }

    private static void with(LabelNet net, String behind) {
        Due.answer("label(0, 0, -1, 1), a CHECK behind " + behind, net.label(0, 0, -1, 1), 16);
        Due.answer("label(0, 0, -1, 2), behind " + behind, net.label(0, 0, -1, 2), 3);
        Due.answer("count(0, 0), behind " + behind, net.count(0, 0), 64);
    }

    /**
     * Router 0's label 16 is free, all others are in use, and prefix 0, which is at router 1, has none. What
     * waits for router 0 at link 6 has waited there since before; what was put there later was lost.
     */
    private static LabelNet oneFreeAndOneWithout() {
        LabelNet net = new LabelNet(3);
        net.lay(0, 0, 1, 1);
        net.lay(BESIDE, 0, 1, 50);
        net.lay(8, 1, 2, 1);
        net.turn(0, true);
        net.turn(BESIDE, true);
        net.turn(8, true);
        net.attach(7, 1);
        Nets.settle(net);
        net.attach(6, 0);
        net.attach(5, 0);
        net.attach(5, -1);
        net.attach(4, 2);
        net.attach(3, 2);
        deliverTheRest(net);
        Due.answer("queue(6, 1, 0)", net.queue(BESIDE, 1, 0), 16);
        useLabels(net, 19, 79);
        net.attach(0, 1);
        Due.answer("NOTE", net.deliver(0, 1), 0);
        Due.answer("MAPPING", net.deliver(0, 1), 1);
        Due.answer("none is free: label(0, 0, -1, 1)", net.label(0, 0, -1, 1), -1);
        Due.answer("count(0, 0)", net.count(0, 0), 64);
        net.attach(7, -1);
        Due.answer("NOTE", net.deliver(0, 1), 0);
        without(net, "the CHECK that freed it");
        return net;
    }

    /** What waits for routers 0 and 1, but not at link 6 for router 0. */
    private static void deliverTheRest(LabelNet net) {
        for (int i = 0; i < 8; i++) {
            Nets.deliverAll(net, 8, 1);
            Nets.deliverAll(net, 0, 0);
            Nets.deliverAll(net, 0, 1);
            Nets.deliverAll(net, BESIDE, 0);
        }
    }

    /** Six messages for each prefix that comes and seven for each that goes, none of them at link 6 for router 0. */
    private static void useLabels(LabelNet net, int first, int last) {
        for (int label = first; label <= last; label += 3) {
            int many = Math.min(3, last - label + 1);
            for (int prefix = 0; prefix < many; prefix++) {
                net.attach(prefix, 1);
            }
            net.run(6 * many);
            Due.answer("the last of " + many + " labels", net.label(0, many - 1, -1, 1), label + many - 1);
            for (int prefix = 0; prefix < many; prefix++) {
                net.attach(prefix, -1);
            }
            net.run(7 * many);
        }
        Due.answer("count(0, 0)", net.count(0, 0), last - 15);
    }

    /** Delivers spoiled messages of link 6 to router 0. */
    private static void skip(LabelNet net, int many) {
        for (int i = 0; i < many; i++) {
            net.spoil(BESIDE, 1, 0);
            net.deliver(BESIDE, 1);
        }
    }

    private static void nextBeside(LabelNet net, int kind, int subject, int value, int path) {
        Nets.dueNext(net, BESIDE, 1, kind, subject, value, path);
    }

    private static void nothingElseChecks() {
        LabelNet net = oneFreeAndOneWithout();
        Due.answer("knows(0, 2)", net.knows(0, 2), 4);
        nextBeside(net, 0, 2, 3, 0);
        without(net, "an older NOTE");
        net.spoil(BESIDE, 1, 0);
        nextBeside(net, 9, 4, 16, 6);
        without(net, "a spoiled MAPPING");
        nextBeside(net, 0, 2, 4, 0);
        without(net, "a NOTE that is known already");
        skip(net, 1);
        Due.answer("knows(0, 0)", net.knows(0, 0), 6);
        nextBeside(net, 0, 0, 4, 0);
        without(net, "an older NOTE of its own");
        skip(net, 3);
        nextBeside(net, 0, 0, 6, 0);
        without(net, "a NOTE of its own");
        net.spoil(BESIDE, 1, 0);
        nextBeside(net, 10, 5, 19, 0);
        without(net, "a spoiled WITHDRAW");
        skip(net, 2);
        nextBeside(net, 3, 5, 3, 0);
        without(net, "a RELEASE of 3");
        net.spoil(BESIDE, 1, 0);
        nextBeside(net, 8, 2, 4, 0);
        without(net, "a spoiled NOTE");
        net.spoil(BESIDE, 1, 0);
        nextBeside(net, 11, 4, 17, 0);
        without(net, "a spoiled RELEASE");
        net.lay(9, 0, 2, 1);
        without(net, "lay");
        net.run(0);
        without(net, "run(0)");
    }

    private static void packetDoesNotCheck() {
        LabelNet net = oneFreeAndOneWithout();
        net.spoil(0, 1, 0);
        Nets.dueNext(net, 0, 1, 10, 7, 3, 0);
        net.inject(1, 6, 5);
        Nets.dueNext(net, 0, 1, 4, 0, -1, 0);
        Due.answer("DELIVERED", net.packet(0, 0), 1);
        without(net, "a PACKET that comes");
        net.inject(0, 6, 5);
        net.inject(0, 0, 5);
        Due.answer("it goes by the mapping of 3", net.packet(2, 0), 0);
        without(net, "inject");
    }

    /** Router 0 has withdrawn 16, which was free at once: the RELEASE of it comes behind. */
    private static void releaseOfAFreeLabelDoesNotCheck() {
        LabelNet net = oneFreeAndOneWithout();
        net.spoil(0, 1, 0);
        net.deliver(0, 1);
        Nets.dueNext(net, 0, 0, 2, 7, 16, 0);
        Nets.dueNext(net, 0, 1, 3, 7, 16, 0);
        without(net, "a RELEASE of a label that is free");
    }

    private static void releaseChecks() {
        LabelNet net = oneFreeAndOneWithout();
        skip(net, 14);
        nextBeside(net, 3, 4, 17, 0);
        with(net, "a RELEASE that counts");
    }

    private static void mappingChecks() {
        LabelNet net = oneFreeAndOneWithout();
        skip(net, 1);
        nextBeside(net, 1, 4, 16, 6);
        with(net, "a MAPPING that is had");
        LabelNet other = oneFreeAndOneWithout();
        skip(other, 5);
        nextBeside(other, 1, 6, 18, 3);
        Due.answer("label(0, 6, 6, 3)", other.label(0, 6, BESIDE, 3), -1);
        with(other, "a MAPPING whose path has the router");
    }

    private static void withdrawChecks() {
        LabelNet net = oneFreeAndOneWithout();
        Nets.dueNext(net, 0, 1, 2, 7, 3, 0);
        with(net, "a WITHDRAW of a mapping that it has");
        LabelNet other = oneFreeAndOneWithout();
        skip(other, 9);
        nextBeside(other, 2, 5, 19, 0);
        with(other, "a WITHDRAW of none that it has");
    }

    private static void noteChecks() {
        LabelNet net = oneFreeAndOneWithout();
        net.attach(2, 2);
        without(net, "what router 2 is told");
        Nets.dueNext(net, 8, 1, 0, 2, 5, 0);
        without(net, "what router 1 hears");
        net.spoil(0, 1, 0);
        net.deliver(0, 1);
        Nets.dueNext(net, 0, 1, 0, 2, 5, 0);
        with(net, "a NOTE that is known now");
    }

    private static void attachChecks() {
        LabelNet net = oneFreeAndOneWithout();
        net.attach(2, 0);
        with(net, "attach(2, 0)");
        LabelNet away = oneFreeAndOneWithout();
        away.attach(6, -1);
        with(away, "attach(6, -1), from router 0");
        LabelNet moved = oneFreeAndOneWithout();
        moved.attach(6, 1);
        with(moved, "attach(6, 1), from router 0");
    }

    private static void linkChecks() {
        LabelNet net = oneFreeAndOneWithout();
        net.lay(9, 0, 2, 60);
        net.turn(9, true);
        with(net, "a link that comes UP");
        LabelNet greater = oneFreeAndOneWithout();
        greater.lay(9, 1, 2, 60);
        greater.turn(9, true);
        without(greater, "a link of others that comes UP");
        greater.turn(9, false);
        without(greater, "a link of others that goes down");
        LabelNet down = oneFreeAndOneWithout();
        down.turn(BESIDE, false);
        Due.answer("label(0, 0, -1, 1), a CHECK behind a link that goes down", down.label(0, 0, -1, 1), 16);
        Due.answer("count(0, 0): all that waited for it are free", down.count(0, 0), 3);
    }
}
