/** Promise 13: label, and how routers bind labels. */
public final class LabelTest {
    public static void main(String[] args) {
        wrong();
        alongALine();
        leastEgress();
        otherPathSameLabel();
        samePathOtherLabel();
        becomesAndIsNoLongerEgress();
        waitsForReleaseAnew();
        leastFreeLabel();
        noFreeLabel();
        Due.end();
    }

    private static void wrong() {
        LabelNet net = Nets.line(3);
        net.attach(0, 2);
        Nets.settle(net);
        for (int no : new int[] {-1, 3, 8, Integer.MIN_VALUE, Integer.MAX_VALUE}) {
            for (int what = 0; what < 5; what++) {
                Due.answer("label(" + no + ", 0, -1, " + what + ")", net.label(no, 0, -1, what), -1);
            }
        }
        for (int no : new int[] {-1, 8, Integer.MIN_VALUE, Integer.MAX_VALUE}) {
            for (int what = 0; what < 5; what++) {
                Due.answer("label(0, " + no + ", -1, " + what + ")", net.label(0, no, -1, what), -1);
            }
        }
        for (int no : new int[] {-2, 12, 11, 1, Integer.MIN_VALUE, Integer.MAX_VALUE}) {
            Due.answer("label(0, 0, " + no + ", 3)", net.label(0, 0, no, 3), -1);
            Due.answer("label(0, 0, " + no + ", 4)", net.label(0, 0, no, 4), -1);
        }
        for (int what : new int[] {-1, 5, Integer.MIN_VALUE, Integer.MAX_VALUE}) {
            Due.answer("label(0, 0, -1, " + what + ")", net.label(0, 0, -1, what), -1);
        }
    }

    private static void seen(LabelNet net, int r, int prefix, int... answers) {
        for (int what = 0; what < answers.length; what++) {
            Due.answer("label(" + r + ", " + prefix + ", -1, " + what + ")", net.label(r, prefix, -1, what), answers[what]);
        }
    }

    private static void alongALine() {
        LabelNet net = Nets.line(4);
        net.attach(3, 2);
        Nets.settle(net);
        seen(net, 2, 3, 2, 3, 4, -1, -1);
        seen(net, 1, 3, 2, 16, 6, 3, 4);
        seen(net, 3, 3, 2, 16, 12, 3, 4);
        seen(net, 0, 3, 2, 16, 7, 16, 6);
        seen(net, 0, 4, -1, -1, -1, -1, -1);
        Due.answer("label(1, 3, 1, 3)", net.label(1, 3, 1, 3), 3);
        Due.answer("label(1, 3, 1, 4)", net.label(1, 3, 1, 4), 4);
        Due.answer("label(1, 3, 0, 3): router 0's path leads by 1", net.label(1, 3, 0, 3), -1);
        Due.answer("label(2, 3, 1, 4)", net.label(2, 3, 1, 4), -1);
        net.attach(0, 3);
        Nets.settle(net);
        net.attach(7, 0);
        Nets.settle(net);
        seen(net, 1, 0, 3, 17, 14, 16, 12);
        seen(net, 2, 0, 3, 16, 12, 3, 8);
        seen(net, 1, 7, 0, 18, 3, 3, 1);
        seen(net, 3, 7, 0, 17, 15, 17, 7);
        Due.answer("count(1, 0)", net.count(1, 0), 3);
        Due.answer("count(0, 0)", net.count(0, 0), 2);
    }

    /** Two known records have the prefix: the least router that can be come to is the EGRESS. */
    private static void leastEgress() {
        LabelNet net = Nets.line(3);
        net.attach(1, 2);
        Nets.settle(net);
        net.attach(1, 0);
        net.deliver(0, 0);
        seen(net, 0, 1, 0, 3, 1);
        seen(net, 2, 1, -1);
        seen(net, 1, 1, 0, -1);
        Due.answer("a WITHDRAW", net.deliver(0, 0), 2);
        Due.answer("a MAPPING", net.deliver(0, 0), 1);
        // Router 0 had 16 of router 1, and its RELEASE did not come yet.
        seen(net, 1, 1, 0, 17, 3, 3, 1);
        net.turn(0, false);
        seen(net, 1, 1, 2, 17, 6, 3, 4);
        Due.answer("count(1, 0)", net.count(1, 0), 1);
        seen(net, 0, 1, 0, 3, 1);
    }

    /** Router 2 goes by router 1 while link 0 is UP. */
    private static void otherPathSameLabel() {
        LabelNet net = Nets.ring(0);
        seen(net, 2, 0, 0, 16, 7);
        net.turn(0, false);
        int number = net.knows(1, 1);
        Nets.dueNext(net, 1, 0, 0, 1, number, 0);
        seen(net, 2, 0, 0, 16, 5, 3, 1);
        Due.answer("queue(1, 1, 0)", net.queue(1, 1, 0), 1);
        Nets.dueFirst(net, 1, 1, 1, 0, 16, 5);
        Due.answer("queue(2, 1, 0)", net.queue(2, 1, 0), 2);
        Nets.dueNext(net, 2, 1, 0, 1, number, 0);
        Nets.dueFirst(net, 2, 1, 1, 0, 16, 5);
        Due.answer("count(2, 0)", net.count(2, 0), 1);
    }

    /** Router 0 hears only that router 1's label is another one: nothing is to be told of it. */
    private static void samePathOtherLabel() {
        LabelNet net = Nets.line(3);
        net.attach(0, 2);
        Nets.settle(net);
        net.attach(0, -1);
        net.deliver(1, 1);
        net.deliver(1, 1);
        net.attach(0, 2);
        net.deliver(1, 1);
        net.deliver(1, 1);
        seen(net, 1, 0, 2, 17, 6);
        Due.answer("count(1, 0): 16 is not released", net.count(1, 0), 2);
        Due.answer("queue(0, 1, 0)", net.queue(0, 1, 0), 4);
        net.spoil(0, 1, 0);
        net.spoil(0, 1, 1);
        Nets.dueNext(net, 0, 1, 8, 2, 4, 0);
        Nets.dueNext(net, 0, 1, 10, 0, 16, 0);
        Nets.dueNext(net, 0, 1, 0, 2, 5, 0);
        Nets.dueNext(net, 0, 1, 1, 0, 17, 6);
        seen(net, 0, 0, 2, 16, 7, 17, 6);
        Due.answer("queue(0, 0, 0)", net.queue(0, 0, 0), 0);
    }

    private static void becomesAndIsNoLongerEgress() {
        LabelNet net = Nets.line(3);
        net.attach(0, 2);
        Nets.settle(net);
        net.attach(0, 1);
        seen(net, 1, 0, 1, 3, 2, -1, -1);
        Due.answer("count(1, 0): 16 is not released", net.count(1, 0), 1);
        // Router 1 does not hear yet that router 2 does not have the prefix any more.
        net.attach(0, -1);
        seen(net, 1, 0, 2, 17, 6, 3, 4);
        Due.answer("count(1, 0)", net.count(1, 0), 2);
        Due.answer("queue(0, 1, 0)", net.queue(0, 1, 0), 6);
        Nets.dueNext(net, 0, 1, 0, 1, 4, 0);
        Nets.dueNext(net, 0, 1, 2, 0, 16, 0);
        Nets.dueNext(net, 0, 1, 1, 0, 3, 2);
        Nets.dueNext(net, 0, 1, 0, 1, 5, 0);
        Nets.dueNext(net, 0, 1, 2, 0, 3, 0);
        Nets.dueNext(net, 0, 1, 1, 0, 17, 6);
        Nets.settle(net);
        Due.answer("count(1, 0)", net.count(1, 0), 0);
        seen(net, 1, 0, -1, -1, -1, -1, -1);
    }

    /** A RELEASE from before the last MAPPING to a link does not count for it. */
    private static void waitsForReleaseAnew() {
        LabelNet net = Nets.ring(0);
        net.turn(0, false);
        Nets.settle(net);
        Due.answer("label(1, 0, 1, 3): router 1 has it now", net.label(1, 0, 1, 3), 16);
        net.attach(0, -1);
        int number = net.knows(0, 0);
        Nets.dueNext(net, 2, 0, 0, 0, number, 0);
        seen(net, 2, 0, -1, -1);
        Due.answer("count(2, 0)", net.count(2, 0), 1);
        Nets.dueNext(net, 2, 1, 2, 0, 16, 0);
        Nets.dueNext(net, 2, 0, 2, 0, 3, 0);
        Nets.dueNext(net, 2, 0, 3, 0, 16, 0);
        Due.answer("router 0's RELEASE is not enough", net.count(2, 0), 1);
        Nets.dueNext(net, 1, 1, 0, 0, number, 0);
        Nets.dueNext(net, 1, 1, 2, 0, 16, 0);
        // Router 1 took 17 when it became ACTIVE by router 2, which had not released its 16 then.
        Nets.dueNext(net, 1, 0, 2, 0, 17, 0);
        Due.answer("count(2, 0)", net.count(2, 0), 1);
        Nets.dueNext(net, 1, 0, 3, 0, 16, 0);
        Due.answer("now it is free", net.count(2, 0), 0);
    }

    /** Of three labels the first becomes free: it is the next one that is taken. */
    private static void leastFreeLabel() {
        LabelNet net = Nets.line(2);
        for (int prefix = 0; prefix < 3; prefix++) {
            net.attach(prefix, 0);
            Nets.settle(net);
            seen(net, 1, prefix, 0, 16 + prefix);
        }
        net.attach(1, -1);
        Nets.settle(net);
        Due.answer("count(1, 0)", net.count(1, 0), 2);
        net.attach(7, 0);
        Nets.settle(net);
        seen(net, 1, 7, 0, 17);
        net.attach(1, 0);
        Nets.settle(net);
        seen(net, 1, 1, 0, 19);
        seen(net, 1, 2, 0, 18);
    }

    /** Router 2's RELEASEs are not delivered until router 1 has all its 64 labels in use. */
    private static void noFreeLabel() {
        LabelNet net = Nets.line(3);
        for (int round = 0; round < 8; round++) {
            attachAll(net, 0);
            Due.answer("run(48)", net.run(48), 48);
            Due.answer("label(1, 7, -1, 1)", net.label(1, 7, -1, 1), 23 + 8 * round);
            attachAll(net, -1);
            Due.answer("run(56)", net.run(56), 56);
            Due.answer("count(1, 0)", net.count(1, 0), 8 + 8 * round);
        }
        attachAll(net, 0);
        Due.answer("run(24)", net.run(24), 24);
        for (int prefix = 0; prefix < 8; prefix++) {
            seen(net, 1, prefix, 0, -1, -1, 3, 1);
        }
        Due.answer("queue(0, 1, 0)", net.queue(0, 1, 0), 0);
        for (int i = 0; i < 8; i++) {
            Due.answer("an old MAPPING of router 2", net.deliver(1, 1), 1);
        }
        Due.answer("its WITHDRAW", net.deliver(1, 1), 2);
        Due.answer("count(1, 0)", net.count(1, 0), 64);
        seen(net, 1, 0, 0, -1, -1, 3, 1);
        Nets.dueNext(net, 1, 1, 3, 0, 16, 0);
        Due.answer("count(1, 0)", net.count(1, 0), 64);
        seen(net, 1, 0, 0, 16, 3);
        seen(net, 1, 1, 0, -1, -1);
        Nets.dueFirst(net, 0, 1, 1, 0, 16, 3);
        net.turn(1, false);
        Due.answer("count(1, 0)", net.count(1, 0), 8);
        for (int prefix = 0; prefix < 8; prefix++) {
            seen(net, 1, prefix, 0, 16 + prefix, 3);
        }
    }

    private static void attachAll(LabelNet net, int router) {
        for (int prefix = 0; prefix < 8; prefix++) {
            net.attach(prefix, router);
        }
    }
}
