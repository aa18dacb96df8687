/** Promise 9: packet. */
public final class PacketTest {
    public static void main(String[] args) {
        LabelNet net = Nets.line(3);
        net.attach(6, 2);
        Nets.settle(net);
        none(net, 0);
        net.inject(0, 6, 7);
        seen(net, 0, 0, 0, 6, 16);
        none(net, 1);
        net.deliver(0, 0);
        seen(net, 0, 0, 1, 5, -1);
        net.deliver(1, 0);
        seen(net, 0, 1, 2, 5, -1);
        net.inject(2, 6, 0);
        seen(net, 1, 1, 2, 0, -1);
        net.inject(0, 6, 0);
        seen(net, 2, 4, 0, 0, -1);
        net.inject(0, 6, 1);
        net.deliver(0, 0);
        seen(net, 3, 4, 1, 0, 16);
        net.inject(0, 6, 60);
        net.turn(0, false);
        seen(net, 4, 6, 0, 59, 16);
        net.inject(0, 6, 60);
        seen(net, 5, 2, 0, 60, -1);
        Due.answer("the first is as it was", net.packet(0, 0), 1);
        none(net, 6);
        none(net, 64);
        none(net, -1);
        none(net, Integer.MAX_VALUE);
        none(net, Integer.MIN_VALUE);
        for (int what : new int[] {-1, 5, 6, Integer.MAX_VALUE, Integer.MIN_VALUE}) {
            Due.answer("packet(0, " + what + ")", net.packet(0, what), -1);
        }
        Due.end();
    }

    private static void seen(LabelNet net, int k, int fate, int router, int ttl, int label) {
        Due.answer("packet(" + k + ", 0)", net.packet(k, 0), fate);
        Due.answer("packet(" + k + ", 1)", net.packet(k, 1), router);
        Due.answer("packet(" + k + ", 2)", net.packet(k, 2), ttl);
        Due.answer("packet(" + k + ", 3)", net.packet(k, 3), label);
        Due.answer("packet(" + k + ", 4)", net.packet(k, 4), 6);
    }

    private static void none(LabelNet net, int k) {
        for (int what = -1; what < 6; what++) {
            Due.answer("packet(" + k + ", " + what + ")", net.packet(k, what), -1);
        }
    }
}
