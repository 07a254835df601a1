/** The edges of ACTS, THE TRACE and THE IMAGE: a test of each sentence that names one. */
public final class ActEdgesTest extends Checks {
    private static final int LEAST = Integer.MIN_VALUE;
    private static final int GREATEST = Integer.MAX_VALUE;
    private static final int HAS = 0, ASKS = 1, TELLS = 2;

    public static void main(String[] args) {
        knowingWraps();
        guessedWraps();
        listedWraps();
        sayingWraps();
        friendlyWraps();
        rangedWraps();
        falseWraps();
        bodiesOfEachKind();
        fromTheLeftOn();
        noSuchAct();
        nobodyActs();
        traceAtItsEdges();
        traceOfTheLatest();
        traceIsShort();
        takenForAKind();
        takenForNone();
        noImage();
        imageOfNobody();
        imageOfAll();
        imageAnew();
        imageOfWhatIsFull();
        imageWithoutTheTrace();
        countAtItsEdges();
        end();
    }

    /** An ACT of worker i, one of a KIND with v. */
    private static void acts(int kind, int v, int i, int act, int x, int want) {
        PayUntold p = staff(0, 0);
        p.knowing(i, kind, v);
        due("kind " + kind + ", v " + v + ", i " + i + ", act " + act + " with " + x, p.act(i, act, x), want);
    }

    private static void knowingWraps() {
        by("ACTS with x (ints, wrapping): 1 has: x + i. 2 asks: has(x) - v. 3 tells: asks(x) * 2");
        acts(0, 9, 0, HAS, GREATEST, GREATEST);
        acts(0, 9, 1, HAS, GREATEST, LEAST);
        acts(0, 9, 1, HAS, -1, 0);
        acts(0, 9, 1, HAS, LEAST, LEAST + 1);
        acts(0, 0, 0, ASKS, LEAST, LEAST);
        acts(0, 1, 0, ASKS, LEAST, GREATEST);
        acts(0, 9, 0, ASKS, LEAST, GREATEST - 8);
        acts(0, 1, 1, ASKS, GREATEST, GREATEST);
        acts(0, 0, 1, ASKS, GREATEST, LEAST);
        acts(0, 0, 0, TELLS, 1 << 30, LEAST);
        acts(0, 0, 0, TELLS, GREATEST, -2);
        acts(0, 0, 0, TELLS, LEAST, 0);
        acts(0, 9, 0, TELLS, LEAST, -18);
        acts(0, 0, 0, TELLS, -(1 << 30), LEAST);
    }

    private static void guessedWraps() {
        by("11 has: super.has(x * 3) (ints, wrapping)");
        acts(1, 0, 0, HAS, 715827882, 2147483646);
        acts(1, 0, 0, HAS, 715827883, -2147483647);
        acts(1, 0, 1, HAS, 715827882, GREATEST);
        acts(1, 0, 0, HAS, LEAST, LEAST);
        acts(1, 0, 0, HAS, GREATEST, GREATEST - 2);
        acts(1, 0, 1, HAS, 0, 1);
        acts(1, 3, 0, ASKS, LEAST, GREATEST - 2);
        acts(1, 0, 0, TELLS, LEAST, 0);
        acts(1, 0, 0, TELLS, GREATEST, -6);
    }

    private static void listedWraps() {
        by("21 asks: -super.asks(x) (ints, wrapping)");
        acts(2, 0, 0, ASKS, LEAST, LEAST);
        acts(2, 0, 0, ASKS, GREATEST, LEAST + 1);
        acts(2, 1, 0, ASKS, LEAST, LEAST + 1);
        acts(2, 0, 1, ASKS, GREATEST, LEAST);
        acts(2, 9, 0, ASKS, 0, 9);
        acts(2, 0, 0, TELLS, LEAST, 0);
        acts(2, 0, 0, TELLS, GREATEST, 2);
        acts(2, 0, 1, HAS, GREATEST, LEAST);
    }

    private static void sayingWraps() {
        by("31 tells: super.tells(x) ^ 7 (ints, wrapping)");
        acts(3, 0, 0, TELLS, 1 << 30, LEAST + 7);
        acts(3, 0, 0, TELLS, -1, -7);
        acts(3, 0, 0, TELLS, 0, 7);
        acts(3, 0, 0, TELLS, GREATEST, -7);
        acts(3, 9, 1, TELLS, 8, 7);
        acts(3, 1, 0, ASKS, LEAST, GREATEST);
        acts(3, 1, 1, HAS, GREATEST, LEAST);
    }

    private static void friendlyWraps() {
        by("41 tells: super.tells(x - 1) + has(2) (ints, wrapping)");
        acts(4, 0, 0, TELLS, LEAST, 0);
        acts(4, 0, 0, TELLS, 0, 0);
        acts(4, 0, 0, TELLS, 1, 6);
        acts(4, 9, 1, TELLS, 1, -16 + 7);
        acts(4, 0, 0, TELLS, (1 << 30) + 1, LEAST + 6);
        acts(4, 0, 0, HAS, 715827883, -2147483647);
        acts(4, 3, 0, ASKS, LEAST, GREATEST - 2);
    }

    private static void rangedWraps() {
        by("51 has: super.has(x) ^ i (ints, wrapping)");
        acts(5, 0, 1, HAS, GREATEST, LEAST + 1);
        acts(5, 0, 1, HAS, 0, 0);
        acts(5, 0, 1, HAS, -1, 1);
        acts(5, 0, 0, HAS, LEAST, LEAST);
        acts(5, 1, 0, ASKS, LEAST, LEAST + 1);
        acts(5, 0, 0, ASKS, LEAST, LEAST);
        acts(5, 0, 1, TELLS, GREATEST, -2);
    }

    private static void falseWraps() {
        by("61 asks: super.asks(x) + v (ints, wrapping)");
        acts(6, 9, 0, ASKS, LEAST, LEAST);
        acts(6, 9, 1, ASKS, GREATEST, LEAST);
        acts(6, 9, 0, ASKS, 5, 5);
        acts(6, 9, 0, TELLS, 1 << 30, LEAST + 7);
        acts(6, 9, 1, TELLS, GREATEST, 7);
        acts(6, 9, 1, HAS, GREATEST, LEAST);
    }

    private static void traced(PayUntold x, int... bodies) {
        due("bodies", x.count(5), bodies.length);
        for (int i = 0; i < bodies.length; i++) {
            due("body " + i, x.trace(i), bodies[i]);
        }
        due("behind the last body", x.trace(bodies.length), PayUntold.NONE);
    }

    private static void bodiesOfEachKind() {
        by("the body of its KIND, or, if that has none, of the next KIND above that has one");
        int[][][] bodies = {{{1}, {2, 1}, {3, 2, 1}}, {{11, 1}, {2, 11, 1}, {3, 2, 11, 1}},
            {{1}, {21, 2, 1}, {3, 21, 2, 1}}, {{1}, {2, 1}, {31, 3, 2, 1}},
            {{11, 1}, {2, 11, 1}, {41, 3, 2, 11, 1, 11, 1}}, {{51, 1}, {21, 2, 51, 1}, {3, 21, 2, 51, 1}},
            {{1}, {61, 2, 1}, {31, 3, 61, 2, 1}}};
        PayUntold x = staff(0);
        for (int kind = 0; kind < 7; kind++) {
            x.knowing(0, kind, 0);
            for (int act = 0; act < 3; act++) {
                by("bodies of act " + act + " of kind " + kind);
                x.act(0, act, 0);
                traced(x, bodies[kind][act]);
            }
        }
    }

    private static void fromTheLeftOn() {
        by("what stands in a body is done from the left on; as they began");
        PayUntold x = staff(0, 0, 0);
        x.knowing(2, 4, 1);
        due("tells of 5", x.act(2, TELLS, 5), 2 * (12 + 2 - 1) + 8);
        traced(x, 41, 3, 2, 11, 1, 11, 1);
    }

    private static void noSuchAct() {
        by("act: 0, and no TRACE then: no such WORKER, act");
        int[][] wrong = {{-1, 0}, {2, 0}, {0, -1}, {0, 3}, {2, 3}, {-1, -1}, {LEAST, 1}, {GREATEST, 1}, {1, LEAST},
            {1, GREATEST}};
        PayUntold x = staff(0, 0);
        for (int[] call : wrong) {
            x.act(1, TELLS, 5);
            traced(x, 3, 2, 1);
            due("act(" + call[0] + ", " + call[1] + ")", x.act(call[0], call[1], 5), 0);
            traced(x);
            due("no body", x.trace(0), PayUntold.NONE);
        }
        x.act(1, HAS, 5);
        traced(x, 1);
    }

    private static void nobodyActs() {
        by("act: no such WORKER");
        PayUntold x = new PayUntold();
        for (int act = 0; act < 3; act++) {
            due("act " + act, x.act(0, act, 5), 0);
            traced(x);
        }
    }

    private static void traceAtItsEdges() {
        by("THE TRACE's i-th body. NONE");
        PayUntold x = staff(0);
        due("no act yet", x.trace(0), PayUntold.NONE);
        x.knowing(0, 4, 0);
        x.act(0, TELLS, 1);
        due("-1", x.trace(-1), PayUntold.NONE);
        due("0", x.trace(0), 41);
        due("6", x.trace(6), 1);
        due("7", x.trace(7), PayUntold.NONE);
        due("19", x.trace(19), PayUntold.NONE);
        due("20", x.trace(20), PayUntold.NONE);
        due("21", x.trace(21), PayUntold.NONE);
        due("the greatest", x.trace(GREATEST), PayUntold.NONE);
        due("the least", x.trace(LEAST), PayUntold.NONE);
    }

    private static void traceOfTheLatest() {
        by("THE TRACE: of the latest act()");
        PayUntold x = staff(0, 0);
        x.knowing(1, 6, 2);
        x.act(0, TELLS, 1);
        traced(x, 3, 2, 1);
        x.act(1, ASKS, 1);
        traced(x, 61, 2, 1);
        x.act(0, HAS, 1);
        traced(x, 1);
        x.knowing(0, 1, 1);
        x.set(0, 0, 1);
        x.year();
        x.years(3, 1, 0);
        build(x, "rise 1");
        build(x, "x");
        traced(x, 1);
    }

    private static void traceIsShort() {
        by("the first 20 are kept; 5 bodies that ran in the latest act() (all, kept or not)");
        PayUntold x = staff(0, 0, 0, 0, 0, 0, 0);
        int most = 0;
        for (int kind = 0; kind < 7; kind++) {
            x.knowing(kind, kind, 9);
            for (int act = 0; act < 3; act++) {
                x.act(kind, act, GREATEST);
                most = Math.max(most, x.count(5));
            }
        }
        due("the longest act runs bodies", most, 7);
    }

    private static void takenForAKind() {
        by("as: a WORKER's KNOWING taken for a KIND k (0 .. 6), or one under that: its v. -6: another KIND");
        String[] is = {"1000000", "1100000", "1010000", "1001000", "1100100", "1010010", "1001001"};
        for (int kind = 0; kind < 7; kind++) {
            PayUntold x = staff(0, 0);
            x.knowing(1, kind, 9);
            x.knowing(0, kind, 0);
            for (int k = 0; k < 7; k++) {
                boolean taken = is[kind].charAt(k) == '1';
                due("kind " + kind + ", v 9, as " + k, x.as(1, k), taken ? 9 : -6);
                due("kind " + kind + ", v 0, as " + k, x.as(0, k), taken ? 0 : -6);
            }
        }
    }

    private static void takenForNone() {
        by("as: NONE: worker, k");
        PayUntold x = staff(0);
        due("k -1", x.as(0, -1), PayUntold.NONE);
        due("k 7", x.as(0, 7), PayUntold.NONE);
        due("worker -1", x.as(-1, 0), PayUntold.NONE);
        due("worker 1", x.as(1, 6), PayUntold.NONE);
        due("nobody", new PayUntold().as(0, 0), PayUntold.NONE);
    }

    private static void noImage() {
        by("undo: STATE: there is none");
        PayUntold x = new PayUntold();
        due("a new object", x.undo(), PayUntold.STATE);
        x.worker(0, 5, 6, 0);
        due("one with a worker", x.undo(), PayUntold.STATE);
        due("it is still there", x.count(0), 1);
        due("an image", x.image(), 1);
        due("it is there", x.undo(), 1);
        due("it is there still", x.undo(), 1);
    }

    private static void imageOfNobody() {
        by("All is as THE IMAGE: how many WORKERS");
        PayUntold x = new PayUntold();
        due("an image of nobody", x.image(), 0);
        x.worker(4, 5, 6, 1);
        x.advert(0, 1, 2);
        x.list(5);
        x.die(6);
        x.telling(3);
        x.year();
        x.act(0, 0, 0);
        build(x, "leave 1;rise 2");
        write(x, "abc");
        due("nobody is left", x.undo(), 0);
        for (int what = 0; what < 5; what++) {
            due("count(" + what + ")", x.count(what), 0);
        }
        due("leave", x.told(0), 20);
        due("rise", x.told(1), 5);
        due("telling", x.told(2), 0);
        due("the year", x.told(3), 0);
        due("all pay", x.told(5), 0);
        due("die", x.die(0), 0);
        due("of worker 0", x.of(0, 0), -10001);
        due("its desk is free", x.worker(4, 7, 8, 0), 0);
        due("the next house is the first", build(x, "rise 3"), 0);
    }

    private static void imageOfAll() {
        by("THE IMAGE: all that there is");
        PayUntold x = staff(100, 150);
        x.knowing(0, 6, 7);
        x.friend(0, 1);
        x.telling(1);
        x.die(1234);
        x.advert(1, 20, 30);
        x.list(100);
        x.list(150);
        build(x, "leave 90;rise 91;offer 9 w=0;ask 8 w=1");
        x.year();
        x.set(0, 0, 100);
        x.set(1, 0, 150);
        write(x, "rise ");
        due("the image", x.image(), 2);
        for (int turn = 0; turn < 2; turn++) {
            changeAll(x);
            due("undone", x.undo(), 2);
            int[] counts = {2, 1, 1, 2, 5};
            int[] told = {90, 91, 1, 1, -50, 250};
            int[] first = {0, 100, 100, 0, 1, 6, 7, 125, -25, 109, 0, 1};
            int[] second = {2, 150, 150, 1, -5, 0, 0, 125, 25, 150, 8, 1};
            for (int what = 0; what < 12; what++) {
                due("of(0, " + what + ")", x.of(0, what), first[what]);
                due("of(1, " + what + ")", x.of(1, what), second[what]);
                due("told(" + what + ")", x.told(what), what < 6 ? told[what] : -10001);
                due("count(" + what + ")", what < 5 ? x.count(what) : 0, what < 5 ? counts[what] : 0);
            }
            due("slip", x.slip(0), 1334);
            due("span", x.span(1, 0), 20);
            due("span", x.span(1, 1), 30);
            due("looked", x.looked(0), -5);
        }
        due("the tape goes on", x.feed('7'), 6);
        due("it is the second house", x.house(), 1);
        due("rise", x.told(1), 7);
    }

    private static void changeAll(PayUntold x) {
        write(x, "x");
        build(x, "rise 4");
        build(x, "rise 5");
        write(x, "offer");
        x.worker(9, 1, 1, 1);
        x.worker(1, 1, 1, 0);
        for (int w = 0; w < 2; w++) {
            x.set(w, 0, 700);
            x.set(w, 1, 800);
            x.knowing(w, 3, 3);
            x.friend(w, 3);
        }
        x.telling(3);
        x.die(5);
        x.clear();
        x.advert(0, 1, 1);
        x.advert(1, 999, 999);
        x.advert(2, 1, 1);
        x.list(-1);
        x.list(999);
        x.list(998);
        x.list(997);
        x.year();
        x.year();
    }

    private static void imageAnew() {
        by("THE IMAGE is taken: how many WORKERS there are");
        PayUntold x = staff(5);
        due("one", x.image(), 1);
        x.set(0, 0, 6);
        x.worker(9, 7, 7, 0);
        due("two", x.image(), 2);
        x.set(0, 0, 8);
        due("the newest image alone", x.undo(), 2);
        due("pay", x.of(0, 1), 6);
        x.set(0, 0, 9);
        due("it stays", x.undo(), 2);
        due("pay", x.of(0, 1), 6);
        x.worker(8, 7, 7, 0);
        due("what comes behind undo is no part of it", x.undo(), 2);
        due("workers", x.count(0), 2);
        due("desk 8 is free", x.worker(8, 1, 1, 0), 2);
    }

    private static void imageOfWhatIsFull() {
        by("All is as THE IMAGE, full or not");
        PayUntold x = staff(new int[9]);
        build(x, "rise 1");
        build(x, "rise 2");
        build(x, "rise 3");
        build(x, "rise 4");
        for (int i = 0; i < 9; i++) {
            x.list(0);
            x.advert(0, 0, 999);
        }
        x.advert(0, 0, 999);
        x.advert(0, 0, 999);
        write(x, "rise 5");
        x.image();
        due("the fifth house", x.house(), 4);
        x.list(1);
        x.advert(0, 1, 1);
        x.worker(9, 1, 1, 1);
        write(x, "o".repeat(100));
        due("the tape is full", x.feed('o'), PayUntold.FULL);
        x.image();
        due("full as it was", x.undo(), 10);
        due("no house more", x.house(), PayUntold.FULL);
        due("none is listed more", x.list(1), PayUntold.FULL);
        due("no advert more", x.advert(0, 1, 1), PayUntold.FULL);
        due("no sign more", x.feed('o'), PayUntold.FULL);
        due("no worker more", x.worker(9, 1, 1, 1), PayUntold.STATE);
        due("signs", x.count(4), 100);
        due("rise", x.told(1), 5);
    }

    private static void imageWithoutTheTrace() {
        by("THE IMAGE: all that there is (but THE IMAGE and THE TRACE)");
        PayUntold x = staff(0);
        x.act(0, TELLS, 1);
        x.image();
        traced(x, 3, 2, 1);
        x.act(0, ASKS, 1);
        x.undo();
        traced(x, 2, 1);
        x.act(0, 9, 1);
        x.undo();
        traced(x);
    }

    private static void countAtItsEdges() {
        by("count: NONE");
        PayUntold x = staff(1);
        due("-1", x.count(-1), PayUntold.NONE);
        due("6", x.count(6), PayUntold.NONE);
        due("the least", x.count(LEAST), PayUntold.NONE);
        due("the greatest", x.count(GREATEST), PayUntold.NONE);
        due("0", x.count(0), 1);
        due("5", x.count(5), 0);
    }
}
