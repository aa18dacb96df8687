/** Promise 11: knows. */
public final class KnowsTest {
    public static void main(String[] args) {
        LabelNet net = new LabelNet(3);
        net.lay(0, 0, 1, 1);
        net.lay(1, 1, 2, 1);
        net.turn(0, true);
        known(net, 2, 0, 0, 0, 2, 0, 0, 0, 1);
        net.deliver(0, 0);
        known(net, 2, 0, 0, 2, 2, 0, 0, 0, 1);
        net.deliver(0, 1);
        known(net, 2, 2, 0, 2, 2, 0, 0, 0, 1);
        net.turn(1, true);
        known(net, 2, 2, 0, 2, 3, 0, 0, 0, 2);
        Nets.settle(net);
        known(net, 2, 3, 2, 2, 3, 2, 2, 3, 2);
        net.attach(0, 2);
        net.attach(0, 0);
        known(net, 3, 3, 2, 2, 3, 2, 2, 3, 4);
        Nets.settle(net);
        known(net, 3, 3, 4, 3, 3, 4, 3, 3, 4);
        net.turn(1, false);
        Nets.settle(net);
        known(net, 3, 4, 4, 3, 4, 4, 3, 3, 5);
        for (int no : new int[] {-1, 3, 8, Integer.MIN_VALUE, Integer.MAX_VALUE}) {
            Due.answer("knows(" + no + ", 0)", net.knows(no, 0), -1);
            Due.answer("knows(0, " + no + ")", net.knows(0, no), -1);
            Due.answer("knows(" + no + ", " + no + ")", net.knows(no, no), -1);
        }
        Due.end();
    }

    /** The numbers that routers 0, 1 and 2 know, of three routers each. */
    private static void known(LabelNet net, int... numbers) {
        for (int i = 0; i < numbers.length; i++) {
            Due.answer("knows(" + i / 3 + ", " + i % 3 + ")", net.knows(i / 3, i % 3), numbers[i]);
        }
    }
}
