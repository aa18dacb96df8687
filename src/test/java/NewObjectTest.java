/** Promise 1: a new object. */
public final class NewObjectTest {
    public static void main(String[] args) {
        size(Integer.MIN_VALUE, 2);
        size(-1, 2);
        size(0, 2);
        size(1, 2);
        size(2, 2);
        size(3, 3);
        size(7, 7);
        size(8, 8);
        size(9, 8);
        size(Integer.MAX_VALUE, 8);
        empty(new LabelNet(5));
        Due.end();
    }

    private static void size(int asked, int routers) {
        LabelNet net = new LabelNet(asked);
        for (int r = 0; r < routers; r++) {
            Due.answer("of " + asked + ": knows itself, " + r, net.knows(r, r), 1);
        }
        Due.answer("of " + asked + ": knows(" + routers + ", " + routers + ")", net.knows(routers, routers), -1);
        net.attach(0, routers - 1);
        Due.thrown(net, "of " + asked + ": attach(1, " + routers + ")", IndexOutOfBoundsException.class,
                () -> net.attach(1, routers));
    }

    private static void empty(LabelNet net) {
        for (int r = 0; r < 5; r++) {
            for (int other = 0; other < 5; other++) {
                Due.answer("knows(" + r + ", " + other + ")", net.knows(r, other), r == other ? 1 : 0);
                Due.answer("way(" + r + ", " + other + ", 0)", net.way(r, other, 0), r == other ? 0 : -1);
                Due.answer("way(" + r + ", " + other + ", 1)", net.way(r, other, 1), -1);
            }
            for (int what = 0; what < 4; what++) {
                Due.answer("count(" + r + ", " + what + ")", net.count(r, what), 0);
            }
            for (int prefix = 0; prefix < 8; prefix++) {
                for (int what = 0; what < 5; what++) {
                    Due.answer("label(" + r + ", " + prefix + ", -1, " + what + ")", net.label(r, prefix, -1, what), -1);
                }
            }
        }
        for (int link = 0; link < 12; link++) {
            Due.answer("queue(" + link + ", 0, 0)", net.queue(link, 0, 0), 0);
            Due.answer("queue(" + link + ", 1, 0)", net.queue(link, 1, 0), 0);
        }
        Due.answer("packet(0, 0)", net.packet(0, 0), -1);
        Due.answer("run(500)", net.run(500), 0);
        Due.answer("inject(4, 7, 60)", net.inject(4, 7, 60), 0);
        Due.answer("no prefix is attached: packet(0, 0)", net.packet(0, 0), 2);
    }
}
