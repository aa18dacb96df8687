/** Promise 6: run. */
public final class RunTest {
    private static final Class<IllegalArgumentException> ARGUMENT = IllegalArgumentException.class;

    public static void main(String[] args) {
        wrong();
        order();
        atMost();
        fiveHundred();
        Due.end();
    }

    private static void wrong() {
        LabelNet net = Nets.pair();
        net.turn(0, true);
        Due.thrown(net, "run(-1)", ARGUMENT, () -> net.run(-1));
        Due.thrown(net, "run(501)", ARGUMENT, () -> net.run(501));
        Due.thrown(net, "run(min)", ARGUMENT, () -> net.run(Integer.MIN_VALUE));
        Due.thrown(net, "run(max)", ARGUMENT, () -> net.run(Integer.MAX_VALUE));
        Due.answer("run(0)", net.run(0), 0);
        Due.answer("queue(0, 0, 0), nothing delivered", net.queue(0, 0, 0), 1);
    }

    /** Links 1 and 4, no two of which share a router: what is delivered sends nothing more. */
    private static void order() {
        LabelNet net = new LabelNet(4);
        net.lay(4, 0, 1, 1);
        net.lay(1, 2, 3, 1);
        net.turn(4, true);
        net.turn(1, true);
        waiting(net, 1, 1, 1, 1);
        Due.answer("run(1)", net.run(1), 1);
        waiting(net, 0, 1, 1, 1);
        Due.answer("run(1)", net.run(1), 1);
        waiting(net, 0, 0, 1, 1);
        Due.answer("run(1)", net.run(1), 1);
        waiting(net, 0, 0, 0, 1);
        net.attach(0, 3);
        waiting(net, 0, 2, 0, 1);
        // The NOTE and the MAPPING; router 2 is ACTIVE then, its MAPPING goes first; then the RELEASE.
        Due.answer("run(2)", net.run(2), 2);
        waiting(net, 1, 0, 0, 1);
        Due.answer("run(1)", net.run(1), 1);
        waiting(net, 0, 1, 0, 1);
        Due.answer("run(500)", net.run(500), 2);
        Due.answer("run(500)", net.run(500), 0);
    }

    private static void waiting(LabelNet net, int lowAt1, int highAt1, int lowAt4, int highAt4) {
        Due.answer("queue(1, 0, 0)", net.queue(1, 0, 0), lowAt1);
        Due.answer("queue(1, 1, 0)", net.queue(1, 1, 0), highAt1);
        Due.answer("queue(4, 0, 0)", net.queue(4, 0, 0), lowAt4);
        Due.answer("queue(4, 1, 0)", net.queue(4, 1, 0), highAt4);
    }

    private static void atMost() {
        LabelNet net = Nets.line(8);
        for (int prefix = 0; prefix < 8; prefix++) {
            net.attach(prefix, prefix);
        }
        int all = 0;
        for (int i = 0; i < 200; i++) {
            int done = net.run(3);
            all += done;
            if (done < 3) {
                Due.answer("none is left", net.run(500), 0);
                break;
            }
        }
        LabelNet again = Nets.line(8);
        for (int prefix = 0; prefix < 8; prefix++) {
            again.attach(prefix, prefix);
        }
        Due.answer("run(500)", again.run(500), Math.min(all, 500));
        again.run(500);
        Due.answer("in one or in many runs the same is seen", java.util.Arrays.equals(Look.at(net), Look.at(again)), true);
        spoiledCounts();
    }

    /** More than 500 are to be delivered, as each one that comes asks for others. */
    private static void fiveHundred() {
        LabelNet net = new LabelNet(8);
        for (int link = 0; link < 12; link++) {
            net.lay(link, link % 8, (link + 1 + link / 8 * 2) % 8, 1);
            net.turn(link, true);
        }
        for (int prefix = 0; prefix < 8; prefix++) {
            net.attach(prefix, prefix);
        }
        Due.answer("run(500)", net.run(500), 500);
        Due.answer("run(1), more wait still", net.run(1), 1);
        int rest = net.run(500);
        Due.answer("the rest is less: " + rest, rest > 0 && rest < 500, true);
        Due.answer("run(500), none waits", net.run(500), 0);
    }

    private static void spoiledCounts() {
        LabelNet net = Nets.pair();
        net.turn(0, true);
        net.spoil(0, 0, 0);
        Due.answer("run(5), one is spoiled", net.run(5), 2);
        Due.answer("knows(1, 0)", net.knows(1, 0), 0);
        Due.answer("knows(0, 1)", net.knows(0, 1), 2);
    }
}
