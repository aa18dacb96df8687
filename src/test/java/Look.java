/** Everything that can be seen of a net from outside, as one row of numbers. */
final class Look {
    /** The calls that only look, which the program and the model have in common. */
    interface Eyes {
        int packet(int k, int what);

        int queue(int link, int end, int what);

        int knows(int r, int router);

        int way(int r, int router, int what);

        int label(int r, int prefix, int link, int what);

        int count(int r, int what);
    }

    private Look() {
    }

    static int[] at(LabelNet net) {
        return at(eyes(net));
    }

    static int[] at(Eyes net) {
        java.util.stream.IntStream.Builder seen = java.util.stream.IntStream.builder();
        for (int link = 0; link < 12; link++) {
            for (int what = 0; what < 5; what++) {
                seen.add(net.queue(link, 0, what));
                seen.add(net.queue(link, 1, what));
            }
        }
        for (int r = 0; r < 8; r++) {
            for (int other = 0; other < 8; other++) {
                seen.add(net.knows(r, other));
                seen.add(net.way(r, other, 0));
                seen.add(net.way(r, other, 1));
            }
            for (int prefix = 0; prefix < 8; prefix++) {
                for (int link = -1; link < 12; link++) {
                    for (int what = link < 0 ? 0 : 3; what < 5; what++) {
                        seen.add(net.label(r, prefix, link, what));
                    }
                }
            }
            for (int what = 0; what < 4; what++) {
                seen.add(net.count(r, what));
            }
        }
        for (int k = 0; k < 64; k++) {
            for (int what = 0; what < 5; what++) {
                seen.add(net.packet(k, what));
            }
        }
        return seen.build().toArray();
    }

    static Eyes eyes(LabelNet net) {
        return new Eyes() {
            @Override
            public int packet(int k, int what) {
                return net.packet(k, what);
            }

            @Override
            public int queue(int link, int end, int what) {
                return net.queue(link, end, what);
            }

            @Override
            public int knows(int r, int router) {
                return net.knows(r, router);
            }

            @Override
            public int way(int r, int router, int what) {
                return net.way(r, router, what);
            }

            @Override
            public int label(int r, int prefix, int link, int what) {
                return net.label(r, prefix, link, what);
            }

            @Override
            public int count(int r, int what) {
                return net.count(r, what);
            }
        };
    }
}
