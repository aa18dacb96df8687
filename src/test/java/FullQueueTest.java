/** "At each of its ends is a QUEUE of at most 16 messages towards the other one; a message more is lost." */
public final class FullQueueTest {
    private static final int ROOM = 16;

    public static void main(String[] args) {
        justSixteen();
        eachEndHasItsOwn();
        lostNoteAndMapping();
        lostWithdraw();
        lostWithdrawIsNotReleased();
        lostRelease();
        lostAnswerToAnOlderNote();
        justSixteenWhenALinkComesUp();
        lostBehindALinkThatComesUp();
        roundTheEndOfTheRow();
        cutRoundTheEndOfTheRow();
        fullThenDown();
        Due.end();
    }

    /** Routers 0 and 1 with link 0, prefix 7 at router 1 and prefix 6 at router 0, at rest. */
    private static LabelNet pair() {
        LabelNet net = Nets.line(2);
        net.attach(7, 1);
        net.attach(6, 0);
        Nets.settle(net);
        return net;
    }

    private static void inject(LabelNet net, int router, int prefix, int many) {
        for (int i = 0; i < many; i++) {
            net.inject(router, prefix, 9);
        }
    }

    private static void lost(LabelNet net, String what, int want) {
        Due.answer("count(0, 1), " + what, net.count(0, 1), want);
    }

    private static void waits(LabelNet net, int link, int end, int want) {
        Due.answer("queue(" + link + ", " + end + ", 0)", net.queue(link, end, 0), want);
    }

    /** Delivers a full queue of packets, the first of which has this number. */
    private static void dueSixteenPackets(LabelNet net, int link, int end, int first) {
        waits(net, link, end, ROOM);
        for (int i = 0; i < ROOM; i++) {
            Due.answer("packet " + (first + i), net.queue(link, end, 2), first + i);
            Due.answer("deliver(" + link + ", " + end + ")", net.deliver(link, end), 4);
            Due.answer("packet(" + (first + i) + ", 0)", net.packet(first + i, 0), 1);
        }
        waits(net, link, end, 0);
    }

    private static void justSixteen() {
        LabelNet net = pair();
        inject(net, 0, 7, ROOM - 1);
        waits(net, 0, 0, ROOM - 1);
        Due.answer("spoil(0, 0, 15), 15 wait", net.spoil(0, 0, ROOM - 1), false);
        inject(net, 0, 7, 1);
        waits(net, 0, 0, ROOM);
        Due.answer("packet(15, 0), the last that has room", net.packet(ROOM - 1, 0), 0);
        inject(net, 0, 7, 1);
        waits(net, 0, 0, ROOM);
        Due.answer("packet(16, 0), FULL", net.packet(ROOM, 0), 5);
        Due.answer("packet(0, 0), the others are as they were", net.packet(0, 0), 0);
        Due.answer("spoil(0, 0, 16)", net.spoil(0, 0, ROOM), false);
        net.deliver(0, 0);
        inject(net, 0, 7, 2);
        Due.answer("packet(17, 0), one went and one has room", net.packet(17, 0), 0);
        Due.answer("packet(18, 0)", net.packet(18, 0), 5);
        Due.answer("spoil(0, 0, 15), the last of 16", net.spoil(0, 0, ROOM - 1), true);
        Due.answer("run(15)", net.run(15), 15);
        Nets.dueNext(net, 0, 0, 12, 17, -1, 0);
        lost(net, "packets are not counted", 0);
    }

    private static void eachEndHasItsOwn() {
        LabelNet net = pair();
        inject(net, 0, 7, ROOM + 1);
        inject(net, 1, 6, ROOM + 1);
        Due.answer("packet(16, 0), FULL", net.packet(16, 0), 5);
        Due.answer("packet(32, 0), the other end's last", net.packet(32, 0), 0);
        Due.answer("packet(33, 0), FULL", net.packet(33, 0), 5);
        dueSixteenPackets(net, 0, 1, 17);
        dueSixteenPackets(net, 0, 0, 0);
    }

    private static void lostNoteAndMapping() {
        LabelNet net = pair();
        inject(net, 0, 7, ROOM);
        net.attach(0, 0);
        lost(net, "a NOTE and a MAPPING", 2);
        Due.answer("label(0, 0, -1, 1): it is the EGRESS all the same", net.label(0, 0, -1, 1), 3);
        dueSixteenPackets(net, 0, 0, 0);
        Due.answer("knows(1, 0)", net.knows(1, 0), 3);
        Due.answer("label(1, 0, -1, 0)", net.label(1, 0, -1, 0), -1);
        Due.answer("label(1, 0, 0, 3)", net.label(1, 0, 0, 3), -1);
        net.attach(1, 0);
        Nets.settle(net);
        Due.answer("knows(1, 0), the next one comes", net.knows(1, 0), 5);
        Due.answer("label(1, 0, -1, 0)", net.label(1, 0, -1, 0), 0);
        Due.answer("label(1, 0, -1, 1): its MAPPING does not come again", net.label(1, 0, -1, 1), -1);
        lost(net, "no more", 2);
    }

    private static void lostWithdraw() {
        LabelNet net = pair();
        inject(net, 0, 7, ROOM);
        net.attach(6, -1);
        lost(net, "a NOTE and a WITHDRAW", 2);
        dueSixteenPackets(net, 0, 0, 0);
        Due.answer("label(1, 6, -1, 0): it does not know better", net.label(1, 6, -1, 0), 0);
        Due.answer("label(1, 6, 0, 3)", net.label(1, 6, 0, 3), 3);
        waits(net, 0, 1, 0);
    }

    /** Router 1 withdraws its label of prefix 0, and router 2 does not hear of it: it stays in use. */
    private static void lostWithdrawIsNotReleased() {
        LabelNet net = Nets.line(3);
        net.attach(7, 2);
        net.attach(0, 0);
        Nets.settle(net);
        inject(net, 1, 7, ROOM);
        net.attach(0, -1);
        net.deliver(0, 0);
        net.deliver(0, 0);
        lost(net, "a NOTE and a WITHDRAW", 2);
        Nets.settle(net);
        Due.answer("count(1, 0)", net.count(1, 0), 2);
        Due.answer("label(2, 0, 1, 3) of router 1 is had still", net.label(2, 0, 1, 3) >= 16, true);
        net.turn(1, false);
        Nets.settle(net);
        Due.answer("count(1, 0), link 1 is down", net.count(1, 0), 0);
    }

    /** Router 0 has no room for the RELEASE that a MAPPING with itself in the path asks for. */
    private static void lostRelease() {
        LabelNet net = pair();
        net.attach(3, 0);
        net.deliver(0, 0);
        net.deliver(0, 0);
        Due.answer("label(1, 3, -1, 1)", net.label(1, 3, -1, 1), 17);
        inject(net, 0, 7, ROOM);
        Nets.dueNext(net, 0, 1, 1, 3, 17, 3);
        lost(net, "a RELEASE", 1);
        dueSixteenPackets(net, 0, 0, 0);
        net.attach(3, -1);
        net.deliver(0, 0);
        Due.answer("count(1, 0): 17 is withdrawn and not released", net.count(1, 0), 2);
        Nets.settle(net);
        Due.answer("count(1, 0): the WITHDRAW brought a RELEASE", net.count(1, 0), 1);
    }

    /** Link 1 comes UP again, and router 2 tells router 1 of an old record of router 0. */
    private static void lostAnswerToAnOlderNote() {
        LabelNet net = Nets.line(3);
        net.attach(7, 2);
        Nets.settle(net);
        net.turn(1, false);
        net.attach(0, 0);
        Nets.settle(net);
        net.turn(1, true);
        inject(net, 1, 7, ROOM);
        waits(net, 1, 0, ROOM);
        Nets.dueNext(net, 1, 1, 0, 2, 5, 0);
        lost(net, "none yet", 0);
        Nets.dueNext(net, 1, 1, 0, 0, 2, 0);
        lost(net, "the NOTE that goes back", 1);
        waits(net, 1, 0, ROOM);
    }

    /** All that a link can be given when it comes UP: eight NOTEs and eight MAPPINGs. */
    private static LabelNet eight() {
        LabelNet net = Nets.line(8);
        for (int prefix = 0; prefix < 8; prefix++) {
            net.attach(prefix, 0);
            Nets.settle(net);
        }
        return net;
    }

    private static void justSixteenWhenALinkComesUp() {
        LabelNet net = eight();
        net.lay(11, 7, 0, 60);
        net.turn(11, true);
        waits(net, 11, 0, ROOM);
        waits(net, 11, 1, ROOM);
        lost(net, "there is room for all", 0);
        for (int i = 0; i < 8; i++) {
            Due.answer("a NOTE", net.deliver(11, 1), 0);
        }
        for (int i = 0; i < 8; i++) {
            Nets.dueNext(net, 11, 1, 1, i, 16 + i, 255);
        }
    }

    /** Down and UP: router 7 puts its MAPPINGs, goes by link 11 then, and withdraws them: these are too many. */
    private static void lostBehindALinkThatComesUp() {
        LabelNet net = eight();
        net.lay(11, 7, 0, 27);
        net.turn(11, true);
        Nets.settle(net);
        Due.answer("way(7, 0, 1)", net.way(7, 0, 1), 11);
        net.turn(11, false);
        Due.answer("label(7, 0, -1, 2), by router 6", net.label(7, 0, -1, 2), 255);
        Nets.deliverAll(net, 6, 1);
        int before = net.count(0, 1);
        net.turn(11, true);
        Due.answer("label(7, 0, -1, 1)", net.label(7, 0, -1, 1), -1);
        waits(net, 11, 1, ROOM);
        lost(net, "eight WITHDRAWs", before + 8);
    }

    /** What waits is kept in order, and is found by its number, when a queue has been used for long. */
    private static void roundTheEndOfTheRow() {
        LabelNet net = pair();
        int number = 0;
        for (int round = 0; round < 3; round++) {
            inject(net, 0, 7, 5);
            Due.answer("run(5)", net.run(5), 5);
            number += 5;
            inject(net, 0, 7, ROOM);
            Due.answer("spoil(0, 0, 13)", net.spoil(0, 0, 13), true);
            for (int k = 0; k < ROOM; k++) {
                Nets.dueNext(net, 0, 0, k == 13 ? 12 : 4, number, -1, 0);
                Due.answer("packet(" + number + ", 0)", net.packet(number, 0), k == 13 ? 7 : 1);
                number++;
            }
        }
    }

    private static void cutRoundTheEndOfTheRow() {
        LabelNet net = pair();
        inject(net, 0, 7, 11);
        Due.answer("run(11)", net.run(11), 11);
        inject(net, 0, 7, ROOM);
        net.turn(0, false);
        for (int k = 0; k < 11 + ROOM; k++) {
            Due.answer("packet(" + k + ", 0)", net.packet(k, 0), k < 11 ? 1 : 6);
        }
        Due.answer("count(0, 2)", net.count(0, 2), 0);
    }

    private static void fullThenDown() {
        LabelNet net = pair();
        inject(net, 0, 7, ROOM);
        net.turn(0, false);
        waits(net, 0, 0, 0);
        Due.answer("deliver(0, 0)", net.deliver(0, 0), -1);
        net.turn(0, true);
        waits(net, 0, 0, 3);
        Nets.dueFirst(net, 0, 0, 0, 0, 5, 0);
        lost(net, "none", 0);
    }
}
