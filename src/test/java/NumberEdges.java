/** Edges of SPREAD, of turnings and of HEAPS. */
final class NumberEdges extends Edges {
    NumberEdges(Checks checks, Sentences sentences) {
        super(checks, sentences);
    }

    @Override
    void run() {
        calls();
        spread();
        turning();
        wins();
        takes();
    }

    private void calls() {
        sentence(0, "An object is used for at most 512 calls after it has been made");
        EvenSteps rings = new EvenSteps();
        for (int i = 0; i < 255; i++) {
            rings.ring(i % 60 + 1, 60);
            rings.drop(0);
        }
        asked(0, y -> rings.ring(60, 60));
        asked(10000, y -> rings.sum(0, 10000));
        EvenSteps deep = new EvenSteps();
        deep.ring(1, 1);
        for (int i = 0; i < 9; i++) {
            deep.cut(i, 0, 1, 1, 1);
        }
        for (int i = 0; i < 501; i++) {
            deep.step(9, 10000 - i);
        }
        asked(10000, y -> deep.sum(9, 10000));
        EvenSteps full = new EvenSteps();
        for (int i = 0; i < 256; i++) {
            full.slope(1, 1, 2, 5);
        }
        for (int i = 0; i < 255; i++) {
            full.cell(0, 0, 0);
        }
        asked(8, y -> full.count(0));
    }

    private void spread() {
        sentence(0, "SPREAD of k steps over m places (1 .. 40, k 0 .. m)");
        asked(0, y -> y.spread(0, 1));
        asked(1, y -> y.spread(1, 1));
        asked(0, y -> y.spread(0, 40));
        asked((1L << 40) - 1, y -> y.spread(40, 40));
        asked(1, y -> y.spread(1, 40));
        asked((1L << 39) - 1, y -> y.spread(39, 40));
        asked(0x5555555555L, y -> y.spread(20, 40));

        sentence(0, "while there is a row of the first sort and there are two or more of the last one");
        asked(0, y -> y.spread(0, 2));
        asked(1, y -> y.spread(1, 2));
        asked(3, y -> y.spread(2, 2));
        asked(1, y -> y.spread(1, 3));
        asked(3, y -> y.spread(2, 3));
        asked(1, y -> y.spread(1, 4));
        asked(5, y -> y.spread(2, 4));
        asked(7, y -> y.spread(3, 4));
        asked(5, y -> y.spread(2, 5));
        asked(21, y -> y.spread(3, 5));
        asked(9, y -> y.spread(2, 6));
        asked(45, y -> y.spread(4, 6));
        asked(31, y -> y.spread(5, 6));
        asked(21, y -> y.spread(3, 7));
        asked(73, y -> y.spread(3, 8));
        asked(109, y -> y.spread(5, 8));
        // 10110 10110 101
        asked(0b1010110101101, y -> y.spread(8, 13));

        sentence(28, "SPREAD: the bits, the first place the lowest. -1: no such.");
        asked(-1, y -> y.spread(0, 0));
        for (int m : new int[] {0, -1, 41, 64, LEAST, MOST}) {
            asked(-1, y -> y.spread(0, m));
            asked(-1, y -> y.spread(1, m));
            asked(-1, y -> y.spread(m, m));
        }
        for (int k : new int[] {-1, 6, LEAST, MOST}) {
            asked(-1, y -> y.spread(k, 5));
        }
        asked(-1, y -> y.spread(41, 40));
        asked(-1, y -> y.spread(-1, 40));
        asked(-1, y -> y.spread(2, 1));
    }

    private void turning() {
        sentence(29, "Where the least turning of m bits (1 .. 40; the first place the lowest bit; "
                + "bits beyond m do not matter) begins: read from that place on");
        asked(0, y -> y.turning(0, 1));
        asked(0, y -> y.turning(1, 1));
        asked(0, y -> y.turning(0, 40));
        asked(0, y -> y.turning((1L << 40) - 1, 40));
        asked(0, y -> y.turning(1L << 39, 40));
        asked(1, y -> y.turning(1, 40));
        asked(39, y -> y.turning((1L << 39) - 1, 40));
        asked(1, y -> y.turning(1 | 1L << 40, 40));
        asked(1, y -> y.turning(1 | -1L << 40, 40));
        asked(0, y -> y.turning(-1L, 40));
        asked(0, y -> y.turning(Long.MIN_VALUE, 40));
        asked(0, y -> y.turning(Long.MAX_VALUE, 1));
        asked(1, y -> y.turning(0b1101, 2));
        asked(1, y -> y.turning(0b11101, 3));
        asked(2, y -> y.turning(0b00011, 3));

        sentence(29, "round the ring, they are least (a 0 ahead of a 1), the first such place. -1: no such.");
        asked(0, y -> y.turning(0b1010, 4));
        asked(1, y -> y.turning(0b0101, 4));
        asked(1, y -> y.turning(0b1001001, 6));
        asked(3, y -> y.turning(0b0110, 4));
        asked(1, y -> y.turning(181, 8));
        for (int m : new int[] {0, -1, 41, 63, 64, LEAST, MOST}) {
            asked(-1, y -> y.turning(1, m));
            asked(-1, y -> y.turning(0, m));
        }
    }

    private void wins() {
        sentence(0, "HEAPS: two heaps of 0 .. 2000");
        asked(0, y -> y.wins(0, 0));
        asked(1, y -> y.wins(0, 2000));
        asked(1, y -> y.wins(2000, 0));
        asked(1, y -> y.wins(2000, 2000));
        asked(0, y -> y.wins(1236, 2000));
        asked(0, y -> y.wins(2000, 1236));
        asked(-1, y -> y.takes(2000, 1236));
        asked(1002000, y -> y.takes(2000, 0));
        asked(2002000, y -> y.takes(0, 2000));

        sentence(30, "HEAPS: whether the one whose turn it is wins: 1, 0. -1: no such.");
        int[] beside = {0, 2, 1, 5, 7, 3, 10, 4, 13};
        for (int i = 0; i < beside.length; i++) {
            int heap = i;
            asked(0, y -> y.wins(heap, beside[heap]));
            asked(1, y -> y.wins(heap, beside[heap] + 1));
        }
        asked(1, y -> y.wins(1235, 2000));
        asked(1, y -> y.wins(1237, 2000));
        for (int heap : new int[] {-1, 2001, LEAST, MOST}) {
            asked(-1, y -> y.wins(heap, 0));
            asked(-1, y -> y.wins(0, heap));
            asked(-1, y -> y.wins(heap, heap));
        }
    }

    private void takes() {
        sentence(31, "HEAPS: what that one takes to win: of the ways that do, "
                + "from the first heap alone as few as can be: 1000000 and how many; "
                + "else from the second alone: 2000000 and how many; else from both: 3000000 and how many.");
        asked(1000001, y -> y.takes(1, 0));
        asked(2000001, y -> y.takes(0, 1));
        asked(3000001, y -> y.takes(1, 1));
        asked(1000002, y -> y.takes(3, 2));
        asked(2000002, y -> y.takes(2, 3));
        asked(3000001, y -> y.takes(4, 6));
        asked(2000001, y -> y.takes(1, 3));
        asked(1000001, y -> y.takes(3, 1));
        asked(2000001, y -> y.takes(3, 6));
        asked(3000003, y -> y.takes(3, 3));
        asked(1000764, y -> y.takes(2000, 2000));
        asked(1000001, y -> y.takes(1237, 2000));
        // 1236 is lost with 2000 alone, 1999 with more: 1234 and 1997 are left
        asked(3000002, y -> y.takes(1236, 1999));
        asked(2000473, y -> y.takes(1235, 1236));

        sentence(31, "-1: it does not win, or no such.");
        asked(-1, y -> y.takes(0, 0));
        asked(-1, y -> y.takes(1, 2));
        asked(-1, y -> y.takes(2, 1));
        asked(-1, y -> y.takes(3, 5));
        asked(-1, y -> y.takes(1236, 2000));
        asked(-1, y -> y.takes(2000, 1236));
        for (int heap : new int[] {-1, 2001, LEAST, MOST}) {
            asked(-1, y -> y.takes(heap, 0));
            asked(-1, y -> y.takes(0, heap));
            asked(-1, y -> y.takes(heap, heap));
        }
    }
}
