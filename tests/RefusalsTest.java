import java.util.ArrayList;
import java.util.List;
import java.util.function.Supplier;
import java.util.function.ToIntFunction;

/** What is refused and what is only asked changes nothing; of several refusals the first one is told. */
public final class RefusalsTest extends Checks {
    private static final int NONE = PayUntold.NONE, BAD = PayUntold.BAD, STATE = PayUntold.STATE, FULL = PayUntold.FULL;
    private static final int WIDE_NONE = -10001, WIDE_BAD = -10002;

    private interface Asked {
        int on(PayUntold x, int[] a);
    }

    /** One number of a call: its bounds, and what is answered outside them. */
    private record Part(int least, int greatest, int refusal) {
        boolean holds(int n) {
            return n >= least && n <= greatest;
        }

        int[] tries() {
            return new int[] {Math.max(0, least), least - 1, greatest + 1, Integer.MIN_VALUE, Integer.MAX_VALUE};
        }
    }

    private record Row(String name, Asked call, Part... parts) { }

    public static void main(String[] args) {
        refuses("a new object", PayUntold::new, 0, 0);
        refuses("an object in use", RefusalsTest::inUse, 3, 7);
        refuses("a full object", RefusalsTest::full, 10, 4);
        refusesByState();
        refusesWhatIsFull();
        refusesBetweenNumbers();
        refusesActs();
        onlyAsks("a new object", PayUntold::new);
        onlyAsks("an object in use", RefusalsTest::inUse);
        onlyAsks("a full object", RefusalsTest::full);
        onlyAsks("an old object", RefusalsTest::old);
        end();
    }

    private static PayUntold inUse() {
        PayUntold x = staff(50, 260);
        build(x, "rise 7;ask 2 w=1");
        x.list(50);
        x.advert(1, 5, 900);
        write(x, "cut 1");
        x.image();
        x.house();
        x.worker(7, 100, 400, 0);
        x.set(1, 1, 270);
        x.set(1, 0, 250);
        x.knowing(0, 5, 6);
        x.knowing(1, 3, 4);
        x.knowing(2, 4, 9);
        x.friend(0, 2);
        x.friend(2, 1);
        x.telling(1);
        x.die(9990);
        x.advert(0, 30, 70);
        x.advert(2, 90, 100);
        x.list(250);
        x.list(100);
        build(x, "leave 9;rise 3;offer 5 l=0;cut 2 k=3;ask 4 y<2");
        write(x, "leave 4");
        x.act(2, 2, 5);
        return x;
    }

    private static PayUntold full() {
        PayUntold x = new PayUntold();
        x.image();
        for (int w = 0; w < 10; w++) {
            x.worker(9 - w, 30 * w, 300 - w, w / 5);
            x.knowing(w, w % 7, w);
            x.friend(w, (w + 3) % 10);
            x.list(30 * w);
            x.advert(w, 10 * w, 500);
        }
        x.advert(0, 5, 499);
        x.advert(9, 91, 498);
        for (int h = 0; h < 4; h++) {
            build(x, "rise " + h + ";ask " + h + " w<9");
        }
        write(x, "ask 9 w=0" + ";ask 9 w=0".repeat(8) + ";ask 10 w=0");
        x.telling(3);
        x.die(9999);
        x.act(3, 2, 1);
        return x;
    }

    /** YEAR 99, and no more HOUSES. */
    private static PayUntold old() {
        PayUntold x = staff(100, 120);
        x.set(0, 1, 0);
        for (int h = 0; h < 5; h++) {
            build(x, "rise " + h + ";ask 1 w=0");
        }
        for (int year = 0; year < 99; year++) {
            x.year();
        }
        write(x, "rise 9");
        return x;
    }

    /** All that an object answers, and what it answers as it goes on: the same, if the same is in it. */
    private static List<Integer> seen(PayUntold x) {
        List<Integer> all = new ArrayList<>();
        look(x, all);
        all.add(x.die(0));
        if (x.count(4) < 100) {
            all.add(x.feed('2'));
        }
        all.add(x.house());
        int workers = x.count(0);
        for (int w = 0; w < workers; w++) {
            all.add(x.of(w, 9));
            all.add(x.of(w, 10));
        }
        all.add(x.told(0));
        all.add(x.year());
        all.add(x.told(5));
        all.add(x.undo());
        look(x, all);
        all.add(x.feed(' '));
        all.add(x.house());
        return all;
    }

    private static void look(PayUntold x, List<Integer> all) {
        for (int what = 0; what < 6; what++) {
            all.add(x.count(what));
            all.add(x.told(what));
            all.add(x.trace(what));
        }
        int workers = x.count(0);
        for (int w = 0; w < workers; w++) {
            for (int what = 0; what < 11; what++) {
                all.add(x.of(w, what));
            }
            all.add(x.span(w, 0));
            all.add(x.span(w, 1));
            all.add(x.slip(w));
        }
        for (int what = 0; what < 3; what++) {
            all.add(x.looked(what));
        }
    }

    private static void unchanged(String call, PayUntold x, List<Integer> before) {
        due("what is seen behind " + call, seen(x).equals(before) ? 1 : 0, 1);
    }

    private static List<Row> rows(int workers, int bodies) {
        Part who = new Part(0, workers - 1, NONE);
        Part pay = new Part(0, 999, BAD);
        List<Row> rows = new ArrayList<>();
        rows.add(new Row("feed", (x, a) -> x.feed(a[0]), new Part(0, 127, BAD)));
        rows.add(new Row("told", (x, a) -> x.told(a[0]), new Part(0, 5, WIDE_NONE)));
        rows.add(new Row("worker", (x, a) -> x.worker(a[0], a[1], a[2], a[3]),
            new Part(0, 9, NONE), pay, pay, new Part(0, 1, NONE)));
        rows.add(new Row("knowing", (x, a) -> x.knowing(a[0], a[1], a[2]),
            who, new Part(0, 6, NONE), new Part(0, 9, BAD)));
        rows.add(new Row("friend", (x, a) -> x.friend(a[0], a[1]), who, new Part(-1, workers - 1, NONE)));
        rows.add(new Row("of", (x, a) -> x.of(a[0], a[1]),
            new Part(0, workers - 1, WIDE_NONE), new Part(0, 11, WIDE_NONE)));
        rows.add(new Row("set", (x, a) -> x.set(a[0], a[1], a[2]), who, new Part(0, 1, NONE), pay));
        rows.add(new Row("telling", (x, a) -> x.telling(a[0]), new Part(0, 3, NONE)));
        rows.add(new Row("years", (x, a) -> x.years(a[0], a[1], a[2]),
            new Part(0, 20, WIDE_BAD), new Part(0, 3, WIDE_NONE), new Part(0, 2, WIDE_NONE)));
        rows.add(new Row("best", (x, a) -> x.best(a[0]), new Part(0, 20, BAD)));
        rows.add(new Row("even", (x, a) -> x.even(a[0]), new Part(0, 99, BAD)));
        rows.add(new Row("spread", (x, a) -> x.spread(a[0], a[1]), who, new Part(0, 99, BAD)));
        rows.add(new Row("bargain", (x, a) -> x.bargain(a[0], a[1], a[2]), who, new Part(0, 2, NONE), pay));
        rows.add(new Row("die", (x, a) -> x.die(a[0]), new Part(0, 9999, BAD)));
        rows.add(new Row("slip", (x, a) -> x.slip(a[0]), new Part(-1, workers - 1, NONE)));
        rows.add(new Row("known", (x, a) -> x.known(a[0]), new Part(0, (1 << workers) - 1, BAD)));
        rows.add(new Row("advert", (x, a) -> x.advert(a[0], a[1], a[2]), who, pay, pay));
        rows.add(new Row("span", (x, a) -> x.span(a[0], a[1]), who, new Part(0, 1, NONE)));
        rows.add(new Row("can", (x, a) -> x.can(a[0]), new Part(0, 1, NONE)));
        rows.add(new Row("list", (x, a) -> x.list(a[0]), new Part(-1, 999, BAD)));
        rows.add(new Row("looked", (x, a) -> x.looked(a[0]), new Part(0, 2, NONE)));
        rows.add(new Row("trace", (x, a) -> x.trace(a[0]), new Part(0, bodies - 1, NONE)));
        rows.add(new Row("as", (x, a) -> x.as(a[0], a[1]), who, new Part(0, 6, NONE)));
        rows.add(new Row("count", (x, a) -> x.count(a[0]), new Part(0, 5, NONE)));
        return rows;
    }

    /** Each call with each choice of numbers of which one or more lie outside. */
    private static void refuses(String state, Supplier<PayUntold> made, int workers, int bodies) {
        by("REFUSALS of " + state + ": NONE, else BAD; they change nothing");
        List<Integer> before = seen(made.get());
        for (Row row : rows(workers, bodies)) {
            refusesBy(row, new int[row.parts().length], 0, made, before);
        }
    }

    private static void refusesBy(Row row, int[] a, int at, Supplier<PayUntold> made, List<Integer> before) {
        if (at < a.length) {
            for (int n : row.parts()[at].tries()) {
                a[at] = n;
                refusesBy(row, a, at + 1, made, before);
            }
            return;
        }
        int want = firstRefusal(row, a);
        if (want != 0) {
            PayUntold x = made.get();
            String call = row.name() + java.util.Arrays.toString(a);
            due(call, row.call().on(x, a), want);
            unchanged(call, x, before);
        }
    }

    /** NONE ahead of BAD, wherever they stand; 0, if all numbers are within. */
    private static int firstRefusal(Row row, int[] a) {
        int refusal = 0;
        for (int i = 0; i < a.length; i++) {
            Part part = row.parts()[i];
            boolean first = refusal == 0 || refusal == BAD || refusal == WIDE_BAD;
            if (!part.holds(a[i]) && first) {
                refusal = part.refusal();
            }
        }
        return refusal;
    }

    private static void refused(String call, Supplier<PayUntold> made, ToIntFunction<PayUntold> asked, int want) {
        PayUntold x = made.get();
        due(call, asked.applyAsInt(x), want);
        unchanged(call, x, seen(made.get()));
    }

    private static void refusesByState() {
        by("REFUSALS: STATE; they change nothing");
        refused("a desk that is had, 0", RefusalsTest::inUse, x -> x.worker(0, 1, 1, 0), STATE);
        refused("a desk that is had, 7", RefusalsTest::inUse, x -> x.worker(7, 999, 999, 1), STATE);
        for (int desk = 0; desk < 10; desk++) {
            int at = desk;
            refused("all desks had, " + at, RefusalsTest::full, x -> x.worker(at, 5, 5, 0), STATE);
        }
        refused("a year behind 99", RefusalsTest::old, x -> x.year(), STATE);
        refused("undo without an image", RefusalsTest::old, x -> x.undo(), STATE);
        refused("undo without an image", PayUntold::new, x -> x.undo(), STATE);
    }

    private static void refusesWhatIsFull() {
        by("REFUSALS: FULL; they change nothing");
        refused("a sixth house", RefusalsTest::old, x -> x.house(), FULL);
        refused("a sixth house, twice", RefusalsTest::old, x -> x.house() + x.house(), 2 * FULL);
        refused("sign 101", RefusalsTest::full, x -> x.feed('5'), FULL);
        refused("sign 101, 0", RefusalsTest::full, x -> x.feed(0), FULL);
        refused("sign 101, 127", RefusalsTest::full, x -> x.feed(127), FULL);
        refused("advert 13", RefusalsTest::full, x -> x.advert(0, 6, 7), FULL);
        refused("advert 13 of the last one", RefusalsTest::full, x -> x.advert(9, 999, 999), FULL);
        refused("list 11", RefusalsTest::full, x -> x.list(5), FULL);
        refused("list 11, 0", RefusalsTest::full, x -> x.list(0), FULL);
    }

    private static void refusesBetweenNumbers() {
        by("REFUSALS: BAD; they change nothing");
        refused("a friend of itself, 0", RefusalsTest::inUse, x -> x.friend(0, 0), BAD);
        refused("a friend of itself, 1", RefusalsTest::inUse, x -> x.friend(1, 1), BAD);
        refused("a friend of itself, 9", RefusalsTest::full, x -> x.friend(9, 9), BAD);
        refused("a least above the greatest", RefusalsTest::inUse, x -> x.advert(1, 8, 7), BAD);
        refused("a least above the greatest", RefusalsTest::full, x -> x.advert(1, 999, 0), BAD);
        refused("two workers' bits and one more", RefusalsTest::inUse, x -> x.known(0b1011), BAD);
        refused("all workers' bits and one more", RefusalsTest::full, x -> x.known(2047), BAD);
    }

    /** The trace alone is another one behind an act that is not there. */
    private static void refusesActs() {
        by("act: 0, and no TRACE then: no such WORKER, act");
        int[][] wrong = {{3, 0}, {-1, 2}, {0, 3}, {2, -1}, {Integer.MIN_VALUE, Integer.MAX_VALUE}};
        for (int[] call : wrong) {
            PayUntold x = inUse();
            due("bodies ahead of it", x.count(5), 7);
            due("act" + java.util.Arrays.toString(call), x.act(call[0], call[1], 8), 0);
            due("bodies behind it", x.count(5), 0);
            due("an act", x.act(2, 2, 5), inUse().act(2, 2, 5));
            unchanged("act" + java.util.Arrays.toString(call), x, seen(inUse()));
        }
    }

    private static void asked(String state, Supplier<PayUntold> made, String call, ToIntFunction<PayUntold> asked) {
        PayUntold x = made.get();
        int once = asked.applyAsInt(x);
        due(call + " of " + state + ", again", asked.applyAsInt(x), once);
        unchanged(call + " of " + state, x, seen(made.get()));
    }

    private static void onlyAsks(String state, Supplier<PayUntold> made) {
        by("what is asked changes nothing");
        for (int n = 0; n < 12; n++) {
            int what = n;
            asked(state, made, "told(" + n + ")", x -> x.told(what));
            asked(state, made, "of(0, " + n + ")", x -> x.of(0, what));
            asked(state, made, "of(1, " + n + ")", x -> x.of(1, what));
            asked(state, made, "slip(" + (n - 1) + ")", x -> x.slip(what - 1));
            asked(state, made, "known(" + n + ")", x -> x.known(what));
            asked(state, made, "span(" + n / 2 + ", " + n % 2 + ")", x -> x.span(what / 2, what % 2));
            asked(state, made, "can(" + n % 2 + ")", x -> x.can(what % 2));
            asked(state, made, "looked(" + n % 3 + ")", x -> x.looked(what % 3));
            asked(state, made, "trace(" + n + ")", x -> x.trace(what));
            asked(state, made, "as(0, " + n + ")", x -> x.as(0, what));
            asked(state, made, "count(" + n + ")", x -> x.count(what));
            asked(state, made, "years(" + n + ", ..)", x -> x.years(what, what % 4, what / 4));
            asked(state, made, "years(20, ..)", x -> x.years(20, what % 4, what / 4));
            asked(state, made, "best(" + n + ")", x -> x.best(what));
            asked(state, made, "best(20)", x -> x.best(20));
            asked(state, made, "even(" + 9 * n + ")", x -> x.even(9 * what));
            asked(state, made, "spread(0, " + 9 * n + ")", x -> x.spread(0, 9 * what));
            asked(state, made, "bargain(0, ..)", x -> x.bargain(0, what % 3, 40 * what));
            asked(state, made, "bargain(1, ..)", x -> x.bargain(1, what % 3, 90 * what));
        }
        by("an image changes nothing");
        List<Integer> now = new ArrayList<>();
        look(made.get(), now);
        looks(state + ", imaged", made.get(), x -> x.image(), now);
        looks(state + ", imaged and undone", made.get(), x -> x.image() - x.undo(), now);
    }

    private static void looks(String state, PayUntold x, ToIntFunction<PayUntold> done, List<Integer> want) {
        done.applyAsInt(x);
        List<Integer> now = new ArrayList<>();
        look(x, now);
        due("what is seen of " + state, now.equals(want) ? 1 : 0, 1);
    }
}
