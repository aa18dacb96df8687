/** Promise 14: count. */
public final class CountTest {
    private static final int[] NO_ROUTER = {-1, 3, 8, Integer.MIN_VALUE, Integer.MAX_VALUE};

    public static void main(String[] args) {
        labels();
        lost();
        packets();
        links();
        Due.end();
    }

    private static void labels() {
        LabelNet net = Nets.line(3);
        net.attach(0, 0);
        net.attach(1, 1);
        net.attach(2, 0);
        Nets.settle(net);
        Due.answer("count(0, 0): 3 is never in use", net.count(0, 0), 1);
        Due.answer("count(1, 0)", net.count(1, 0), 2);
        Due.answer("count(2, 0)", net.count(2, 0), 3);
        for (int r : NO_ROUTER) {
            Due.answer("count(" + r + ", 0)", net.count(r, 0), -1);
        }
        for (int what : new int[] {-1, 4, Integer.MIN_VALUE, Integer.MAX_VALUE}) {
            Due.answer("count(0, " + what + ")", net.count(0, what), -1);
            Due.answer("count(-1, " + what + ")", net.count(-1, what), -1);
        }
    }

    private static void whoever(LabelNet net, int what, int want) {
        Due.answer("count(0, " + what + ")", net.count(0, what), want);
        for (int r : NO_ROUTER) {
            Due.answer("count(" + r + ", " + what + ")", net.count(r, what), want);
        }
    }

    private static void lost() {
        LabelNet net = Nets.pair();
        net.turn(0, true);
        for (int i = 1; i <= 12; i++) {
            net.attach(0, i % 2 == 1 ? 0 : -1);
            whoever(net, 1, Math.max(0, 1 + 2 * i - 16));
        }
        net.turn(0, false);
        whoever(net, 1, 9);
        net.turn(0, true);
        Nets.settle(net);
        whoever(net, 1, 9);
        Due.answer("knows(1, 0): what was lost is not missed", net.knows(1, 0), net.knows(0, 0));
    }

    private static void packets() {
        LabelNet net = Nets.line(2);
        net.attach(0, 1);
        Nets.settle(net);
        for (int i = 0; i < 18; i++) {
            net.inject(0, 0, 1);
            whoever(net, 2, Math.min(16, 1 + i));
        }
        whoever(net, 1, 0);
        net.inject(1, 0, 1);
        whoever(net, 2, 16);
        net.deliver(0, 0);
        whoever(net, 2, 15);
        net.spoil(0, 0, 0);
        whoever(net, 2, 15);
        net.deliver(0, 0);
        whoever(net, 2, 14);
        net.turn(0, false);
        whoever(net, 2, 0);
    }

    private static void links() {
        LabelNet net = new LabelNet(3);
        for (int link = 0; link < 12; link++) {
            net.lay(link, link % 2, 2, 5);
            whoever(net, 3, 0);
        }
        for (int link = 0; link < 12; link++) {
            net.turn(link, true);
            whoever(net, 3, link + 1);
        }
        net.turn(5, false);
        whoever(net, 3, 11);
    }
}
