/** Promise 2: lay. */
public final class LayTest {
    private static final Class<IndexOutOfBoundsException> INDEX = IndexOutOfBoundsException.class;
    private static final Class<IllegalArgumentException> ARGUMENT = IllegalArgumentException.class;

    public static void main(String[] args) {
        wrong(new LabelNet(3));
        laidIsDown();
        ends();
        costs();
        Due.end();
    }

    private static void wrong(LabelNet net) {
        Due.thrown(net, "lay(-1, 0, 1, 1)", INDEX, () -> net.lay(-1, 0, 1, 1));
        Due.thrown(net, "lay(12, 0, 1, 1)", INDEX, () -> net.lay(12, 0, 1, 1));
        Due.thrown(net, "lay(min, 0, 1, 1)", INDEX, () -> net.lay(Integer.MIN_VALUE, 0, 1, 1));
        Due.thrown(net, "lay(0, -1, 1, 1)", INDEX, () -> net.lay(0, -1, 1, 1));
        Due.thrown(net, "lay(0, 3, 1, 1)", INDEX, () -> net.lay(0, 3, 1, 1));
        Due.thrown(net, "lay(0, 1, -1, 1)", INDEX, () -> net.lay(0, 1, -1, 1));
        Due.thrown(net, "lay(0, 1, 3, 1)", INDEX, () -> net.lay(0, 1, 3, 1));
        Due.thrown(net, "lay(0, 3, 3, 0)", INDEX, () -> net.lay(0, 3, 3, 0));
        Due.thrown(net, "lay(12, 1, 1, 61)", INDEX, () -> net.lay(12, 1, 1, 61));
        Due.thrown(net, "lay(0, 1, 1, 1)", ARGUMENT, () -> net.lay(0, 1, 1, 1));
        Due.thrown(net, "lay(0, 0, 1, 0)", ARGUMENT, () -> net.lay(0, 0, 1, 0));
        Due.thrown(net, "lay(0, 0, 1, 61)", ARGUMENT, () -> net.lay(0, 0, 1, 61));
        Due.thrown(net, "lay(0, 0, 1, -5)", ARGUMENT, () -> net.lay(0, 0, 1, -5));
        Due.thrown(net, "turn(0, true): no wrong lay laid it", ARGUMENT, () -> net.turn(0, true));
        net.lay(0, 0, 1, 1);
        Due.thrown(net, "lay(0, 0, 1, 1) again", ARGUMENT, () -> net.lay(0, 0, 1, 1));
        Due.thrown(net, "lay(0, 1, 2, 5) again", ARGUMENT, () -> net.lay(0, 1, 2, 5));
        Due.thrown(net, "lay(0, 1, 3, 5), laid", INDEX, () -> net.lay(0, 1, 3, 5));
        net.turn(0, true);
        Due.thrown(net, "lay(0, 0, 1, 1), UP", ARGUMENT, () -> net.lay(0, 0, 1, 1));
        net.turn(0, false);
        Due.thrown(net, "lay(0, 0, 1, 1), down again", ARGUMENT, () -> net.lay(0, 0, 1, 1));
    }

    private static void laidIsDown() {
        LabelNet net = new LabelNet(2);
        int[] before = Look.at(net);
        net.lay(3, 0, 1, 9);
        Due.answer("laid, nothing is seen of it", java.util.Arrays.equals(before, Look.at(net)), true);
        Due.thrown(net, "turn(3, false)", ARGUMENT, () -> net.turn(3, false));
        net.turn(3, true);
        Due.answer("count(0, 3)", net.count(0, 3), 1);
    }

    private static void ends() {
        LabelNet net = new LabelNet(3);
        net.lay(11, 2, 0, 60);
        net.turn(11, true);
        Nets.dueFirst(net, 11, 0, 0, 0, 2, 0);
        Nets.dueFirst(net, 11, 1, 0, 2, 2, 0);
    }

    private static void costs() {
        LabelNet net = new LabelNet(3);
        net.lay(0, 0, 1, 60);
        net.lay(11, 1, 2, 1);
        net.turn(0, true);
        net.turn(11, true);
        Nets.settle(net);
        Due.answer("way(0, 1, 0)", net.way(0, 1, 0), 60);
        Due.answer("way(2, 1, 0)", net.way(2, 1, 0), 1);
        Due.answer("way(2, 0, 0)", net.way(2, 0, 0), 61);
        Due.answer("way(2, 0, 1)", net.way(2, 0, 1), 11);
    }
}
