/** Promise 12: way. */
public final class WayTest {
    public static void main(String[] args) {
        wrong();
        shortest();
        longest();
        leastLink();
        bothSay();
        oldRecords();
        Due.end();
    }

    private static void wrong() {
        LabelNet net = Nets.line(3);
        for (int no : new int[] {-1, 3, 8, Integer.MIN_VALUE, Integer.MAX_VALUE}) {
            for (int what = 0; what < 2; what++) {
                Due.answer("way(" + no + ", 0, " + what + ")", net.way(no, 0, what), -1);
                Due.answer("way(0, " + no + ", " + what + ")", net.way(0, no, what), -1);
            }
        }
        for (int what : new int[] {-1, 2, Integer.MIN_VALUE, Integer.MAX_VALUE}) {
            Due.answer("way(0, 1, " + what + ")", net.way(0, 1, what), -1);
            Due.answer("way(0, 0, " + what + ")", net.way(0, 0, what), -1);
        }
        Nets.dueWay(net, 0, 0, 0, -1);
        Nets.dueWay(net, 0, 2, 3, 0);
        Nets.dueWay(net, 1, 2, 2, 1);
    }

    private static LabelNet ring(int... costs) {
        LabelNet net = new LabelNet(costs.length);
        for (int i = 0; i < costs.length; i++) {
            net.lay(i, i, (i + 1) % costs.length, costs[i]);
            net.turn(i, true);
        }
        Nets.settle(net);
        return net;
    }

    private static void shortest() {
        LabelNet net = ring(5, 1, 1, 1, 60);
        Nets.dueWay(net, 0, 1, 5, 0);
        Nets.dueWay(net, 0, 4, 8, 0);
        Nets.dueWay(net, 4, 0, 8, 3);
        Nets.dueWay(net, 2, 0, 6, 1);
        net.turn(0, false);
        Nets.settle(net);
        Nets.dueWay(net, 0, 1, 63, 4);
        Nets.dueWay(net, 1, 0, 63, 1);
        net.turn(3, false);
        Nets.settle(net);
        Nets.dueWay(net, 0, 1, -1, -1);
        Nets.dueWay(net, 0, 4, 60, 4);
        Nets.dueWay(net, 3, 1, 2, 2);
        Due.answer("a record that is known still leads nowhere", net.knows(0, 1) > 0, true);
    }

    /** Seven links at the greatest cost are the longest way that there is. */
    private static void longest() {
        LabelNet net = new LabelNet(8);
        for (int link = 0; link < 7; link++) {
            net.lay(link, link, link + 1, 60);
            net.turn(link, true);
        }
        Nets.settle(net);
        Nets.dueWay(net, 0, 7, 420, 0);
        Nets.dueWay(net, 7, 0, 420, 6);
        Nets.dueWay(net, 7, 7, 0, -1);
        net.turn(3, false);
        Nets.settle(net);
        Nets.dueWay(net, 0, 7, -1, -1);
        Nets.dueWay(net, 0, 3, 180, 0);
    }

    /** Of ways of the same length the one by the least link; of two links beside one another the cheaper. */
    private static void leastLink() {
        LabelNet net = ring(1, 1, 1, 1);
        Nets.dueWay(net, 0, 2, 2, 0);
        Nets.dueWay(net, 1, 3, 2, 0);
        Nets.dueWay(net, 2, 0, 2, 1);
        Nets.dueWay(net, 3, 1, 2, 2);
        LabelNet beside = new LabelNet(2);
        int[] costs = {4, 3, 2, 2, 5};
        for (int i = 0; i < costs.length; i++) {
            beside.lay(i, 0, 1, costs[i]);
            beside.turn(i, true);
        }
        Nets.settle(beside);
        Nets.dueWay(beside, 0, 1, 2, 2);
        Nets.dueWay(beside, 1, 0, 2, 2);
        beside.turn(2, false);
        Nets.settle(beside);
        Nets.dueWay(beside, 0, 1, 2, 3);
        beside.turn(3, false);
        Nets.settle(beside);
        Nets.dueWay(beside, 0, 1, 3, 1);
    }

    /** A step needs the records of both its ends. */
    private static void bothSay() {
        LabelNet net = new LabelNet(3);
        net.lay(0, 0, 1, 7);
        net.lay(1, 1, 2, 3);
        net.turn(0, true);
        Nets.dueWay(net, 0, 1, -1, -1);
        Nets.dueWay(net, 1, 0, -1, -1);
        net.deliver(0, 0);
        Nets.dueWay(net, 0, 1, -1, -1);
        Nets.dueWay(net, 1, 0, 7, 0);
        net.deliver(0, 1);
        Nets.dueWay(net, 0, 1, 7, 0);
        net.turn(1, true);
        net.deliver(0, 1);
        Nets.dueWay(net, 0, 2, -1, -1);
        Due.answer("knows(0, 2)", net.knows(0, 2), 0);
        net.deliver(1, 1);
        Nets.dueWay(net, 0, 2, -1, -1);
        net.deliver(0, 1);
        Nets.dueWay(net, 0, 2, 10, 0);
    }

    /** What a router knows counts, not what is. */
    private static void oldRecords() {
        LabelNet net = Nets.line(4);
        net.turn(2, false);
        Nets.dueWay(net, 0, 3, 6, 0);
        Nets.dueWay(net, 1, 3, 5, 1);
        Nets.dueWay(net, 2, 3, -1, -1);
        net.deliver(1, 1);
        Nets.dueWay(net, 1, 3, -1, -1);
        Nets.dueWay(net, 0, 3, 6, 0);
        net.deliver(0, 1);
        Nets.dueWay(net, 0, 3, -1, -1);
        net.turn(2, true);
        // Router 2 still knows router 3's record of before, which says that the link is UP.
        Nets.dueWay(net, 2, 3, 3, 2);
        Nets.dueWay(net, 1, 3, -1, -1);
    }
}
