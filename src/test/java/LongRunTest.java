import java.util.Random;

/** Any arguments in any state, far beyond 512 calls: nothing is thrown but what the document says. */
public final class LongRunTest {
    private static final int[] ODD = {-1, 0, 1, 2, 7, 8, 11, 12, 15, 16, 60, 61, 63, 64, 500, 501,
        Integer.MIN_VALUE, Integer.MAX_VALUE};

    public static void main(String[] args) {
        for (int seed = 0; seed < 8; seed++) {
            Random random = new Random(seed);
            LabelNet net = new LabelNet(seed + 1);
            for (int i = 0; i < 20000; i++) {
                any(net, random);
            }
        }
        Due.end();
    }

    private static int pick(Random random) {
        return random.nextInt(4) == 0 ? ODD[random.nextInt(ODD.length)] : random.nextInt(8);
    }

    private static void any(LabelNet net, Random random) {
        int a = pick(random);
        int b = pick(random);
        int c = pick(random);
        int d = pick(random);
        int which = random.nextInt(13);
        try {
            make(net, which, a, b, c, d);
        } catch (RuntimeException e) {
            boolean due = which < 7 && e.getClass() == IllegalArgumentException.class
                    || which < 6 && e.getClass() == IndexOutOfBoundsException.class;
            if (!due || e.getClass() == IllegalArgumentException.class && (which == 4 || which == 5)) {
                Due.tell("call " + which + " of " + a + ", " + b + ", " + c + ", " + d + " threw " + e);
            }
        }
    }

    private static void make(LabelNet net, int which, int a, int b, int c, int d) {
        switch (which) {
            case 0 -> net.lay(a, b, c, d);
            case 1 -> net.turn(a, b % 2 == 0);
            case 2 -> net.attach(a, b);
            case 3 -> net.inject(a, b, c);
            case 4 -> net.deliver(a, b % 3);
            case 5 -> net.spoil(a, b % 3, c);
            case 6 -> net.run(a);
            case 7 -> net.packet(a, b);
            case 8 -> net.queue(a, b, c);
            case 9 -> net.knows(a, b);
            case 10 -> net.way(a, b, c);
            case 11 -> net.label(a, b, c, d);
            default -> net.count(a, b);
        }
    }
}
