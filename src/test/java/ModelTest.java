import java.util.Arrays;
import java.util.Random;

/** Long runs of mixed calls, right and wrong ones, on the program and on the model beside it. */
public final class ModelTest {
    private static final int CALLS = 511;
    private static final int RUNS = 60;
    private static final int INDEX = -2;
    private static final int ARGUMENT = -3;

    private final Random random;
    private final LabelNet net;
    private final ModelNet model;
    private final int routers;
    private final int mostCost;
    private final int mostRun;
    private final int eager;
    private String call = "";

    private ModelTest(int seed) {
        random = new Random(seed);
        routers = 2 + random.nextInt(7);
        net = new LabelNet(routers);
        model = new ModelNet(routers);
        // Few costs make many ways of the same length, few deliveries full queues and old records.
        mostCost = random.nextBoolean() ? 2 : 60;
        mostRun = random.nextBoolean() ? 6 : 500;
        eager = 10 + random.nextInt(60);
    }

    public static void main(String[] args) {
        for (int seed = 0; seed < RUNS; seed++) {
            new ModelTest(seed).go(seed);
        }
        Due.end();
    }

    private void go(int seed) {
        for (int i = 0; i < CALLS; i++) {
            int[] both = step(i < 12 + routers);
            boolean looks = i % 5 == 0 || seed % 8 == 0;
            boolean same = both[0] == both[1] && (!looks || Arrays.equals(Look.at(net), Look.at(model)));
            if (!same) {
                Due.tell("seed " + seed + ", call " + i + ", " + call + ": " + both[0] + ", the model " + both[1]
                        + (both[0] == both[1] ? ", and what is seen differs" : ""));
                return;
            }
        }
    }

    /** Mostly 0 .. most, sometimes just outside or far from it. */
    private int upTo(int most) {
        int odd = random.nextInt(60);
        return odd == 0 ? -1 : odd == 1 ? most + 1 : odd == 2 ? random.nextInt() : random.nextInt(most + 1);
    }

    private int[] step(boolean early) {
        int dice = random.nextInt(100);
        if (early) {
            return dice < 60 ? lay() : turn();
        }
        if (dice < eager) {
            return random.nextInt(3) == 0 ? run() : deliver();
        }
        dice = random.nextInt(20);
        if (dice < 2) {
            return lay();
        }
        if (dice < 9) {
            return turn();
        }
        if (dice < 14) {
            return attach();
        }
        return dice < 17 ? inject() : spoil();
    }

    private int[] lay() {
        int link = upTo(11);
        int a = upTo(routers - 1);
        int b = upTo(routers - 1);
        int cost = random.nextInt(20) == 0 ? upTo(61) : 1 + random.nextInt(mostCost);
        call = "lay(" + link + ", " + a + ", " + b + ", " + cost + ")";
        return both(() -> done(() -> net.lay(link, a, b, cost)), () -> done(() -> model.lay(link, a, b, cost)));
    }

    private int[] turn() {
        int link = upTo(11);
        boolean up = random.nextInt(3) > 0;
        call = "turn(" + link + ", " + up + ")";
        return both(() -> done(() -> net.turn(link, up)), () -> done(() -> model.turn(link, up)));
    }

    private int[] attach() {
        int prefix = upTo(7);
        int router = upTo(routers) - 1;
        call = "attach(" + prefix + ", " + router + ")";
        return both(() -> done(() -> net.attach(prefix, router)), () -> done(() -> model.attach(prefix, router)));
    }

    private int[] deliver() {
        int link = upTo(11);
        int end = upTo(1);
        call = "deliver(" + link + ", " + end + ")";
        return both(() -> net.deliver(link, end), () -> model.deliver(link, end));
    }

    private int[] run() {
        int n = upTo(mostRun);
        call = "run(" + n + ")";
        return both(() -> net.run(n), () -> model.run(n));
    }

    private int[] spoil() {
        int link = upTo(11);
        int end = upTo(1);
        int k = upTo(3);
        call = "spoil(" + link + ", " + end + ", " + k + ")";
        return both(() -> net.spoil(link, end, k) ? 1 : 0, () -> model.spoil(link, end, k) ? 1 : 0);
    }

    private int[] inject() {
        int router = upTo(routers - 1);
        int prefix = upTo(7);
        int ttl = random.nextInt(4) == 0 ? upTo(60) : upTo(9);
        call = "inject(" + router + ", " + prefix + ", " + ttl + ")";
        return both(() -> net.inject(router, prefix, ttl), () -> model.inject(router, prefix, ttl));
    }

    private interface Answer {
        int give();
    }

    private static int done(Due.Call made) {
        made.make();
        return 0;
    }

    private static int[] both(Answer mine, Answer due) {
        return new int[] {caught(mine), caught(due)};
    }

    private static int caught(Answer answer) {
        try {
            return answer.give();
        } catch (IndexOutOfBoundsException e) {
            return e.getClass() == IndexOutOfBoundsException.class ? INDEX : -4;
        } catch (IllegalArgumentException e) {
            return e.getClass() == IllegalArgumentException.class ? ARGUMENT : -4;
        }
    }
}
