/** The edges of YEARS, GAPS and BARGAINS: a test of each sentence that names one. */
public final class YearEdgesTest extends Checks {
    public static void main(String[] args) {
        asksUpToItsOffer();
        asksAboveItsOffer();
        asksUpToTheGreatestPay();
        asksByWishAlone();
        leavesForItsOffer();
        leavesItsFriend();
        toldAsItBegan();
        yearIsOneMore();
        yearNinetyNine();
        yearsOfNone();
        yearsOfTwenty();
        yearsByATelling();
        yearsLeftTogether();
        yearsByGuess();
        yearsWithoutItsFriend();
        yearsBeyondTheLast();
        refusalsOfYears();
        bestOfSeveral();
        bestNearestToNought();
        bestAtItsEdges();
        gapOfLots();
        gapWithoutALot();
        evenAtTheGap();
        evenOfALotThatIsLess();
        evenWithoutALot();
        evenAtItsEdges();
        spreadByWorth();
        spreadAtItsEdges();
        bargainSaysTheLesser();
        bargainMeetsHalfWay();
        bargainOfTheWorker();
        bargainOfBoth();
        bargainBelowBelief();
        bargainAboveB();
        bargainOfTheGreatest();
        refusalsOfBargains();
        end();
    }

    /** PAY behind a YEAR of one WORKER alone that asks for ten more: rise 4 and a wish of 6. */
    private static int asked(int pay, int offer) {
        PayUntold x = new PayUntold();
        x.worker(0, pay, offer, 0);
        build(x, "rise 4;ask 6 w=0");
        due("it asks", x.of(0, 11), 1);
        due("nobody leaves", x.year(), 0);
        return x.of(0, 1);
    }

    private static void asksUpToItsOffer() {
        by("but, if it was below OFFER, no more than that");
        due("offer 111", asked(100, 111), 110);
        due("offer 110", asked(100, 110), 110);
        due("offer 109", asked(100, 109), 109);
        due("offer 101", asked(100, 101), 101);
        due("offer 999", asked(100, 999), 110);
        due("pay 0, offer 1", asked(0, 1), 1);
        due("pay 0, offer 9", asked(0, 9), 9);
        due("pay 0, offer 10", asked(0, 10), 10);
        due("pay 0, offer 11", asked(0, 11), 10);
    }

    private static void asksAboveItsOffer() {
        by("if it was below OFFER, no more than that: else rise and WISH more");
        due("offer as pay", asked(100, 100), 110);
        due("offer one below pay", asked(100, 99), 110);
        due("offer 0", asked(100, 0), 110);
        due("pay 0, offer 0", asked(0, 0), 10);
    }

    private static void asksUpToTheGreatestPay() {
        by("999 at most");
        due("988, offer 0", asked(988, 0), 998);
        due("989, offer 0", asked(989, 0), 999);
        due("990, offer 0", asked(990, 0), 999);
        due("999, offer 0", asked(999, 0), 999);
        due("999, offer 999", asked(999, 999), 999);
        due("998, offer 999", asked(998, 999), 999);
        due("989, offer 999", asked(989, 999), 999);
        due("988, offer 999", asked(988, 999), 998);
        due("995, offer 998", asked(995, 998), 998);
        due("995, offer 995", asked(995, 995), 999);
    }

    private static void asksByWishAlone() {
        by("PAY of each that ASKS becomes rise and WISH more");
        PayUntold x = new PayUntold();
        for (int w = 0; w < 5; w++) {
            x.worker(w, 100 + w, 0, 0);
        }
        build(x, "rise 0;ask 1 w=0;ask 90 w=1;ask 99 w=1;ask 0 w=2");
        x.knowing(3, 3, 1);
        x.year();
        due("wish 1", x.of(0, 1), 101);
        due("wish 189", x.of(1, 1), 290);
        due("wish 0", x.of(2, 1), 102);
        due("glad -1 and rise 0", x.of(3, 1), 103);
        due("neither", x.of(4, 1), 104);
        build(x, "rise 99");
        x.year();
        due("does nothing", x.of(0, 1), 101);
        due("glad -1 and rise 99", x.of(3, 1), 202);
    }

    private static void leavesForItsOffer() {
        by("Of each that LEAVES PAY becomes OFFER");
        int[] worths = {51, 500, 999};
        for (int worth : worths) {
            PayUntold x = staffOf(2, 50, 150);
            x.set(0, 1, worth);
            due("one leaves", x.year(), 1);
            due("pay", x.of(0, 1), worth);
            due("worth", x.of(0, 2), worth);
            due("desk", x.of(0, 0), 0);
            due("kind", x.of(0, 5), 2);
            due("the other's pay", x.of(1, 1), 150);
        }
        PayUntold x = staffOf(2, 50, 150);
        x.set(0, 1, 990);
        build(x, "offer 99 w=0;ask 5 w=0");
        x.year();
        due("an offer above 999", x.of(0, 1), 999);
        PayUntold all = new PayUntold();
        for (int w = 0; w < 10; w++) {
            all.worker(w, 10 * w, 500 + w, 0);
            all.knowing(w, 6, 3);
        }
        due("all ten leave", all.year(), 10);
        due("all pay", all.told(5), 5045);
        due("none leaves then", all.year(), 0);
    }

    private static void leavesItsFriend() {
        by("Of each that LEAVES ..., and it has no FRIEND");
        PayUntold x = staffOf(2, 50, 150, 100, 100);
        x.set(0, 1, 51);
        x.friend(0, 1);
        x.friend(1, 0);
        x.friend(2, 0);
        x.friend(3, 2);
        due("years leave it its friend", x.years(20, 0, 1), 1);
        due("friend of 0", x.of(0, 4), 1);
        due("one leaves", x.year(), 1);
        due("friend of 0", x.of(0, 4), -5);
        due("friend of 1", x.of(1, 4), 0);
        due("friend of 2", x.of(2, 4), 0);
        due("friend of 3", x.of(3, 4), 2);
        due("one without a friend has none", x.friend(0, 3), -5);
    }

    private static void toldAsItBegan() {
        by("A YEAR goes, all told by how it was as it began");
        PayUntold x = staffOf(2, 50, 150);
        x.set(0, 1, 999);
        x.year();
        due("the one ahead left: nothing to the one behind", x.of(1, 1), 150);
        PayUntold y = staffOf(2, 150, 50);
        y.set(1, 1, 999);
        y.year();
        due("the one behind left: nothing to the one ahead", y.of(0, 1), 150);
        PayUntold g = staffOf(1, 100, 90, 80);
        g.year();
        due("by guess the last one asks", g.of(2, 1), 85);
        due("the one beside it does not yet", g.of(1, 1), 90);
        g.year();
        due("a year later it does", g.of(1, 1), 95);
        due("and the last one again", g.of(2, 1), 90);
        due("the first one never", g.of(0, 1), 100);
        PayUntold f = staffOf(4, 100, 300, 300);
        f.set(0, 1, 999);
        f.friend(1, 0);
        f.friend(2, 0);
        due("the one below leaves", f.year(), 1);
        due("its friends were glad", f.of(1, 1), 300);
        due("its friends were glad", f.of(2, 1), 300);
        PayUntold p = staff(100);
        build(p, "rise 5;ask 5 p=10;ask 50 p=11;ask 7 y=0;ask 70 y=1");
        p.year();
        due("p and y as the year began", p.of(0, 1), 117);
        p.year();
        due("p and y as the next began", p.of(0, 1), 117 + 5 + 50 + 70);
    }

    private static void yearIsOneMore() {
        by("THE YEAR is 1 more");
        PayUntold x = staff(5);
        for (int year = 0; year < 12; year++) {
            due("the year", x.told(3), year);
            due("year()", x.year(), 0);
        }
        due("the year", x.told(3), 12);
        PayUntold nobody = new PayUntold();
        due("a year of nobody", nobody.year(), 0);
        due("the year", nobody.told(3), 1);
    }

    private static PayUntold aged(PayUntold x, int years) {
        for (int i = 0; i < years; i++) {
            x.year();
        }
        return x;
    }

    private static void yearNinetyNine() {
        by("year: STATE: it is YEAR 99");
        PayUntold x = staff(5);
        x.set(0, 1, 0);
        build(x, "rise 1;ask 1 w=0");
        aged(x, 98);
        due("year 98", x.told(3), 98);
        due("the last year", x.year(), 0);
        due("year 99", x.told(3), 99);
        due("pay", x.of(0, 1), 5 + 99 * 2);
        due("no more", x.year(), PayUntold.STATE);
        due("no more", x.year(), PayUntold.STATE);
        due("year 99", x.told(3), 99);
        due("pay is as it was", x.of(0, 1), 5 + 99 * 2);
        x.image();
        due("undo", x.undo(), 1);
        due("no more behind undo", x.year(), PayUntold.STATE);
    }

    private static void yearsOfNone() {
        by("YEARS of n (0 .. 20)");
        PayUntold x = staffOf(2, 50, 150, 100);
        x.set(0, 1, 999);
        for (int telling = 0; telling < 4; telling++) {
            due("all pay now", x.years(0, telling, 0), 300);
            due("none has left", x.years(0, telling, 1), 0);
            due("gap now", x.years(0, telling, 2), 75 - 150);
        }
    }

    private static void yearsOfTwenty() {
        by("YEARS of n (0 .. 20)");
        PayUntold x = staff(100, 100);
        build(x, "rise 1;ask 1 l=0;ask 2 l=1");
        for (int n = 0; n <= 20; n++) {
            due("all pay behind " + n, x.years(n, 0, 0), 200 + 5 * n);
            due("left behind " + n, x.years(n, 0, 1), 0);
            due("gap behind " + n, x.years(n, 0, 2), -n);
        }
        due("it is still now", x.told(5), 200);
        due("the year", x.told(3), 0);
        aged(x, 20);
        due("as twenty years go", x.told(5), 300);
        due("gap", x.told(4), -20);
    }

    private static void yearsByATelling() {
        by("YEARS of n by a TELLING: as if that were TELLING");
        PayUntold x = staff(100, 140, 300);
        build(x, "leave 99;rise 10");
        int[] all = {540, 540 + 20, 540 + 20, 540 + 20};
        for (int telling = 0; telling < 4; telling++) {
            x.telling(telling);
            for (int by = 0; by < 4; by++) {
                due("by " + by + " while it is " + telling, x.years(1, by, 0), all[by]);
            }
            due("telling", x.told(2), telling);
        }
        build(x, "leave 79");
        x.set(0, 1, 200);
        x.telling(0);
        due("by nothing none leaves", x.years(1, 0, 1), 0);
        due("by the range one leaves: glad -100", x.years(1, 1, 1), 1);
        due("by the mean one leaves: glad -80", x.years(1, 2, 1), 1);
        build(x, "leave 80");
        due("by the mean none leaves: glad -80", x.years(1, 2, 1), 0);
        due("by all one leaves: glad -160", x.years(1, 3, 1), 1);
    }

    private static void yearsLeftTogether() {
        by("years: what 1 how many have left, together");
        PayUntold x = staff(100);
        x.knowing(0, 3, 1);
        build(x, "leave 0;offer 10 p=10;offer 20 p=11;offer 30 p=12");
        due("one year", x.years(1, 0, 1), 1);
        due("two years", x.years(2, 0, 1), 2);
        due("three years", x.years(3, 0, 1), 3);
        due("four years", x.years(4, 0, 1), 3);
        due("pay then", x.years(3, 0, 0), 130);
        due("and behind a rise", x.years(4, 0, 0), 135);
        due("now it has left once", x.year(), 1);
        due("from now on twice more", x.years(20, 0, 1), 2);
    }

    private static void yearsByGuess() {
        by("YEARS of n: as if n YEARS went, by those BESIDE each");
        PayUntold x = staffOf(1, 100, 90, 80);
        due("one year", x.years(1, 0, 0), 100 + 90 + 85);
        due("two years", x.years(2, 0, 0), 100 + 95 + 90);
        due("gap behind two years", x.years(2, 0, 2), 95 - 95);
        PayUntold turned = new PayUntold();
        int[] desks = {9, 0, 4};
        for (int w = 0; w < 3; w++) {
            turned.worker(desks[w], 100 - 20 * w, 0, 0);
            turned.knowing(w, 1, 0);
        }
        due("in the row 80, 60, 100: the middle one alone asks", turned.years(1, 0, 0), 245);
        due("now nothing has moved", turned.told(5), 240);
    }

    private static void yearsWithoutItsFriend() {
        by("YEARS of n: one that LEAVES has no FRIEND then");
        PayUntold x = staff(100, 120, 100, 400);
        x.set(0, 1, 150);
        x.knowing(0, 4, 0);
        x.friend(0, 3);
        due("it leaves, as its friend has 400", x.years(1, 0, 0), 770);
        due("without that friend it is glad", x.years(2, 0, 0), 770);
        due("and so on", x.years(20, 0, 0), 770);
        due("now it has its friend still", x.of(0, 4), 3);
        x.year();
        x.friend(0, 3);
        due("with a friend anew it asks", x.years(1, 0, 0), 775);
    }

    private static void yearsBeyondTheLast() {
        by("n YEARS from now on (also beyond YEAR 99)");
        PayUntold x = staff(100);
        x.set(0, 1, 0);
        build(x, "rise 0;ask 1 y=9;ask 2 y=0;ask 4 y=1");
        aged(x, 98);
        due("year 98", x.told(3), 98);
        int pay = x.told(5);
        due("pay", pay, 100 + 10 * 2 + 10 * 4 + 9);
        int[] more = {0, 0, 1, 3, 7, 7, 7, 7, 7, 7, 7, 7, 8, 10, 14, 14, 14, 14, 14, 14, 14};
        for (int n = 0; n <= 20; n++) {
            due("pay behind " + n + " from year 98", x.years(n, 0, 0), pay + more[n]);
        }
        x.year();
        due("year 99", x.told(3), 99);
        for (int n = 0; n < 20; n++) {
            due("pay behind " + n + " from year 99", x.years(n, 0, 0), pay + more[n + 1]);
        }
        due("the year", x.told(3), 99);
        due("pay", x.told(5), pay);
        due("best beyond", x.best(20), 0);
    }

    private static void refusalsOfYears() {
        by("years: -10001: NONE: telling, what; -10002: BAD");
        PayUntold x = staff(1);
        due("n -1", x.years(-1, 0, 0), -10002);
        due("n 21", x.years(21, 3, 2), -10002);
        due("telling -1", x.years(0, -1, 0), -10001);
        due("telling 4", x.years(0, 4, 0), -10001);
        due("what -1", x.years(0, 0, -1), -10001);
        due("what 3", x.years(0, 0, 3), -10001);
        due("n -1, telling 4", x.years(-1, 4, 0), -10001);
        due("n 21, what 3", x.years(21, 0, 3), -10001);
        due("all of them", x.years(-1, -1, -1), -10001);
    }

    private static void bestOfSeveral() {
        by("BEST: of several the least TELLING");
        PayUntold x = staff(100, 100);
        due("all alike", x.best(20), 0);
        x.set(1, 0, 80);
        x.set(1, 1, 80);
        due("nobody is told, nobody moves", x.years(1, 0, 2), 20);
        due("by 1", x.years(1, 1, 2), 15);
        due("by 2", x.years(1, 2, 2), 15);
        due("by 3", x.years(1, 3, 2), 15);
        due("1, 2 and 3 are alike", x.best(1), 1);
        due("no year is no change", x.best(0), 0);
        due("four years even it for 1, 2 and 3", x.best(4), 1);
        PayUntold y = staffOf(2, 100, 70, 130);
        y.set(1, 1, 170);
        build(y, "leave 10;rise 15");
        due("all listed by 0", y.years(1, 0, 2), 115 - 170);
        due("and by 1", y.years(1, 1, 2), 115 - 170);
        due("and by 2", y.years(1, 2, 2), 115 - 170);
        due("and by 3", y.years(1, 3, 2), 115 - 170);
        due("all alike, below 0", y.best(1), 0);
    }

    private static void bestNearestToNought() {
        by("BEST: the TELLING by which, behind YEARS of n, GAP is nearest to 0");
        PayUntold x = staff(120, 100);
        x.set(1, 1, 200);
        build(x, "leave 15");
        due("by 0", x.years(1, 0, 2), 20);
        due("by 1: glad -10", x.years(1, 1, 2), 15);
        due("by 2: glad -10", x.years(1, 2, 2), 15);
        due("by 3: glad -20, it leaves", x.years(1, 3, 2), -80);
        due("best(1)", x.best(1), 1);
        x.set(1, 1, 120);
        due("by 3: it leaves for 120", x.years(1, 3, 2), 0);
        due("best(1)", x.best(1), 3);
        x.set(1, 1, 135);
        due("by 3: it leaves for 135", x.years(1, 3, 2), -15);
        due("as near from below as from above: the least", x.best(1), 1);
        x.set(1, 1, 134);
        due("by 3: it leaves for 134", x.years(1, 3, 2), -14);
        due("nearer from below", x.best(1), 3);
        x.set(1, 1, 139);
        x.set(0, 0, 119);
        build(x, "leave 15;rise 0");
        due("by 0", x.years(1, 0, 2), 19);
        due("by 1", x.years(1, 1, 2), 19);
        due("by 3: glad -9, twice", x.years(1, 3, 2), -20);
        due("one farther below than above", x.best(1), 0);
        PayUntold y = staff(100, 60, 240);
        y.set(0, 1, 500);
        build(y, "leave 40;rise 0");
        due("by 1: 0 leaves, glad -50", y.years(1, 1, 2), 370 - 60);
        due("by 2: none leaves", y.years(1, 2, 2), 170 - 60);
        y.set(0, 1, 0);
        y.set(1, 1, 165);
        due("by 0: none leaves", y.years(1, 0, 2), 110);
        due("by 1: 1 leaves, glad -90", y.years(1, 1, 2), 5);
        due("by 2: 1 leaves, glad -73", y.years(1, 2, 2), 5);
        build(y, "leave 80;rise 0");
        due("by 2: none leaves", y.years(1, 2, 2), 110);
        due("1 and 3 are alike", y.best(1), 1);
        PayUntold z = staff(100, 90, 100);
        z.set(0, 0, 40);
        z.set(2, 0, 140);
        build(z, "rise 30;leave 99");
        due("by 1, half of 40 and 140, 1 asks not", z.years(1, 1, 2), 105 - 90);
        z.set(2, 0, 170);
        z.set(1, 0, 104);
        due("by 0", z.years(1, 0, 2), 1);
        due("by 1: 104 is below 105: 0 and 1 ask", z.years(1, 1, 2), (70 + 170) / 2 - 134);
        due("by 2: 104 is not below 104: 0 asks", z.years(1, 2, 2), (70 + 170) / 2 - 104);
        due("best(1)", z.best(1), 0);
        z.set(1, 0, 119);
        due("by 0", z.years(1, 0, 2), -14);
        due("by 1: 0 asks", z.years(1, 1, 2), 1);
        due("best(1)", z.best(1), 1);
    }

    private static void bestAtItsEdges() {
        by("best: BEST by n (0 .. 20). BAD");
        PayUntold x = staff(100, 40);
        due("-1", x.best(-1), PayUntold.BAD);
        due("21", x.best(21), PayUntold.BAD);
        due("0", x.best(0), 0);
        due("1", x.best(1), 1);
        due("20", x.best(20), 1);
        due("19", x.best(19), 1);
    }

    private static void gapOfLots() {
        by("GAP: MEAN of LOT 0 less MEAN of LOT 1");
        due("0, 999", staff(0, 999).told(4), -999);
        due("999, 0", staff(999, 0).told(4), 999);
        due("alike", staff(7, 7).told(4), 0);
        due("each MEAN is cut: 1, 1 and 0 by two", staff(1, 1, 0).told(4), -1);
        due("each MEAN is cut: 2 and 1 by two, 1", staff(2, 1, 1).told(4), 0);
        due("each MEAN is cut: 3 and 2, 5 and 4", staff(3, 5, 2, 4).told(4), 2 - 4);
        due("each MEAN is cut: 4 and 4, 3 and 2", staff(4, 3, 4, 2).told(4), 4 - 2);
    }

    /** WORKERS of one LOT alone. */
    private static PayUntold lotOf(int lot, int... pay) {
        PayUntold x = new PayUntold();
        for (int w = 0; w < pay.length; w++) {
            x.worker(w, pay[w], pay[w], lot);
        }
        return x;
    }

    private static void gapWithoutALot() {
        by("GAP: 0, if one has nobody");
        due("nobody", new PayUntold().told(4), 0);
        for (int lot = 0; lot < 2; lot++) {
            due("one of lot " + lot, lotOf(lot, 70).told(4), 0);
            due("three of lot " + lot, lotOf(lot, 999, 999, 998).told(4), 0);
            due("years of lot " + lot, lotOf(lot, 10, 20).years(3, 2, 2), 0);
            due("best of lot " + lot, lotOf(lot, 10, 20).best(3), 0);
        }
        PayUntold x = lotOf(1, 70);
        x.worker(9, 0, 0, 0);
        due("one comes with pay 0", x.told(4), -70);
    }

    private static void evenAtTheGap() {
        by("EVEN by n: so that GAP is -n .. n");
        PayUntold x = staff(100, 60);
        due("gap 40, n 41", x.even(41), 0);
        due("gap 40, n 40", x.even(40), 0);
        due("gap 40, n 39", x.even(39), 1);
        due("gap 40, n 38", x.even(38), 2);
        due("gap 40, n 0", x.even(0), 40);
        PayUntold y = staff(60, 100);
        due("gap -40, n 41", y.even(41), 0);
        due("gap -40, n 40", y.even(40), 0);
        due("gap -40, n 39", y.even(39), 1);
        due("gap -40, n 0", y.even(0), 40);
        due("gap 0, n 0", staff(60, 60).even(0), 0);
        due("gap 1, n 0", staff(61, 60).even(0), 1);
        due("gap -1, n 0", staff(60, 61).even(0), 1);
        PayUntold one = staff(61, 60);
        one.worker(9, 60, 60, 1);
        due("gap 1 to two of lot 1, n 0", one.even(0), 2);
        due("gap 1 to two of lot 1, n 1", one.even(1), 0);
        PayUntold two = staff(60, 61);
        two.worker(9, 60, 60, 0);
        due("gap -1 of two of lot 0, n 0", two.even(0), 2);
        due("gap -1 of two of lot 0, n 1", two.even(1), 0);
        PayUntold more = staff(60, 61);
        more.worker(9, 61, 61, 1);
        due("gap -1 to two of lot 1, n 0", more.even(0), 1);
    }

    private static void evenOfALotThatIsLess() {
        by("EVEN: by how much, at least, all PAY of that LOT of which the MEAN is less, together, must be more");
        PayUntold x = staff(100, 50, 100, 61);
        due("gap", x.told(4), 100 - 55);
        due("n 45", x.even(45), 0);
        due("n 44: a MEAN of 56", x.even(44), 112 - 111);
        due("n 43: a MEAN of 57", x.even(43), 114 - 111);
        due("n 0", x.even(0), 200 - 111);
        PayUntold y = staff(10, 301, 11, 299, 12, 300, 0, 0, 0);
        y.set(5, 0, 10);
        due("gap", y.told(4), 33 / 5 - 610 / 4);
        due("n 0", y.even(0), 152 * 5 - 33);
        due("n 99", y.even(99), 53 * 5 - 33);
        PayUntold z = staff(0, 999, 0, 999, 0, 999, 0, 999, 0, 999);
        due("five by 999", z.even(0), 4995);
        due("five by 900", z.even(99), 4500);
        PayUntold few = staff(500, 100, 500, 100, 500);
        due("many with more, few with less", few.even(0), 800);
        PayUntold cut = staff(4, 9, 5, 9);
        due("gap of cut MEANS", cut.told(4), -5);
        due("n 5", cut.even(5), 0);
        due("n 4", cut.even(4), 1);
        due("n 0", cut.even(0), 9);
    }

    private static void evenWithoutALot() {
        by("EVEN: 0 also, if a LOT has nobody");
        due("nobody", new PayUntold().even(0), 0);
        due("lot 0 alone", lotOf(0, 70, 999).even(0), 0);
        due("lot 1 alone", lotOf(1, 70, 999).even(0), 0);
    }

    private static void evenAtItsEdges() {
        by("even: EVEN by n (0 .. 99). BAD");
        PayUntold x = staff(300, 100);
        due("-1", x.even(-1), PayUntold.BAD);
        due("100", x.even(100), PayUntold.BAD);
        due("0", x.even(0), 200);
        due("99", x.even(99), 101);
        due("nobody, 100", new PayUntold().even(100), PayUntold.BAD);
        due("nobody, 99", new PayUntold().even(99), 0);
    }

    private static void spreadByWorth() {
        by("SPREAD: of all whose WORTH is no more than n from its own (itself, too)");
        PayUntold x = staff(500, 100, 999, 400);
        int[] worths = {50, 45, 55, 56};
        for (int w = 0; w < 4; w++) {
            x.set(w, 1, worths[w]);
        }
        due("n 0: itself alone", x.spread(0, 0), 0);
        due("n 4: itself alone", x.spread(0, 4), 0);
        due("n 5: one below, one above", x.spread(0, 5), 899);
        due("n 6: all", x.spread(0, 6), 899);
        due("of the lowest worth, n 5", x.spread(1, 5), 400);
        due("of the lowest worth, n 9", x.spread(1, 9), 400);
        due("of the lowest worth, n 10", x.spread(1, 10), 899);
        due("of the highest worth, n 0", x.spread(3, 0), 0);
        due("of the highest worth, n 1", x.spread(3, 1), 599);
        PayUntold y = staff(70, 50, 90);
        for (int w = 0; w < 3; w++) {
            y.set(w, 1, 8);
        }
        due("worth alike, n 0", y.spread(0, 0), 40);
        due("worth alike, n 0", y.spread(1, 0), 40);
        due("alone", staff(999).spread(0, 99), 0);
        PayUntold z = staff(0, 999);
        due("worth 0 and 999", z.spread(0, 99), 0);
        z.set(1, 1, 99);
        due("worth 0 and 99", z.spread(0, 99), 999);
        due("worth 99 and 0", z.spread(1, 99), 999);
        due("worth 99 and 0, n 98", z.spread(1, 98), 0);
    }

    private static void spreadAtItsEdges() {
        by("spread: SPREAD by n (0 .. 99). NONE; BAD");
        PayUntold x = staff(1, 2);
        due("-1", x.spread(0, -1), PayUntold.BAD);
        due("100", x.spread(0, 100), PayUntold.BAD);
        due("worker -1", x.spread(-1, 0), PayUntold.NONE);
        due("worker 2", x.spread(2, 0), PayUntold.NONE);
        due("worker 2, 100", x.spread(2, 100), PayUntold.NONE);
        due("worker -1, -1", x.spread(-1, -1), PayUntold.NONE);
        due("nobody", new PayUntold().spread(0, 0), PayUntold.NONE);
    }

    /** A BARGAIN of one WORKER alone that believes its PAY, with v and a house. */
    private static int bargain(int pay, int v, String text, int first, int b) {
        PayUntold x = staff(pay);
        x.knowing(0, 0, v);
        build(x, text);
        return x.bargain(0, first, b);
    }

    private static void bargainSaysTheLesser() {
        by("0: it is said the lesser of b, and PAY and rise");
        due("b far above", bargain(100, 0, "rise 10", 0, 999), 110);
        due("b one above", bargain(100, 0, "rise 10", 0, 111), 110);
        due("b alike", bargain(100, 0, "rise 10", 0, 110), 110);
        due("b one below", bargain(100, 0, "rise 10", 0, 109), 109);
        due("b as pay", bargain(100, 0, "rise 10", 0, 100), 100);
        due("b one below pay", bargain(100, 0, "rise 10", 0, 99), -5);
        due("rise 0", bargain(100, 0, "rise 0", 0, 999), 100);
        due("rise as without", bargain(100, 0, "leave 0", 0, 999), 105);
        due("v is nothing to it", bargain(100, 9, "rise 10", 0, 999), 110);
        due("pay 0, rise 0, b 0", bargain(0, 0, "rise 0", 0, 0), 0);
        due("pay 0, rise 5, b 0", bargain(0, 0, "rise 5", 0, 0), 0);
    }

    private static void bargainMeetsHalfWay() {
        by("0: if BELIEF and WISH are above that, it comes to the half (cut) of what was said and these, else to that");
        due("wish below rise", bargain(100, 0, "rise 10;ask 9 w=0", 0, 999), 110);
        due("wish as rise", bargain(100, 0, "rise 10;ask 10 w=0", 0, 999), 110);
        due("wish one above rise", bargain(100, 0, "rise 10;ask 11 w=0", 0, 999), 110);
        due("wish two above rise", bargain(100, 0, "rise 10;ask 12 w=0", 0, 999), 111);
        due("wish three above rise", bargain(100, 0, "rise 10;ask 13 w=0", 0, 999), 111);
        due("wish 99", bargain(100, 0, "rise 10;ask 99 w=0", 0, 999), 154);
        due("b below pay and rise", bargain(100, 0, "rise 10;ask 6 w=0", 0, 105), 105);
        due("b one below the half", bargain(100, 0, "rise 10;ask 7 w=0", 0, 105), -5);
    }

    private static void bargainOfTheWorker() {
        by("1: the WORKER says BELIEF, WISH and 10 times v; if that is above b, the half (cut) of it and b, else it");
        due("belief alone", bargain(100, 0, "rise 10", 1, 999), 100);
        due("v 1", bargain(100, 1, "rise 10", 1, 999), 110);
        due("v 9", bargain(100, 9, "rise 10", 1, 999), 190);
        due("v 9 and wish 7", bargain(100, 9, "ask 7 w=0", 1, 999), 197);
        due("b alike", bargain(100, 2, "ask 7 w=0", 1, 127), 127);
        due("b one below", bargain(100, 2, "ask 7 w=0", 1, 126), 126);
        due("b two below", bargain(100, 2, "ask 7 w=0", 1, 125), -5);
        due("b one above", bargain(100, 2, "ask 7 w=0", 1, 128), 127);
        due("pay 0, b 0", bargain(0, 0, "rise 9", 1, 0), 0);
        due("pay 0, wish 1, b 0", bargain(0, 0, "ask 1 w=0", 1, 0), 0);
        due("pay 0, wish 2, b 0", bargain(0, 0, "ask 2 w=0", 1, 0), -5);
    }

    private static void bargainOfBoth() {
        by("2: both say at once what they would say first: the half (cut) of both");
        due("110 and 100", bargain(100, 0, "rise 10", 2, 999), 105);
        due("111 and 100", bargain(100, 0, "rise 11", 2, 999), 105);
        due("112 and 100", bargain(100, 0, "rise 12", 2, 999), 106);
        due("100 and 100", bargain(100, 0, "rise 0", 2, 999), 100);
        due("110 and 120", bargain(100, 1, "rise 10;ask 10 w=0", 2, 999), 115);
        due("110 and 120, b 115", bargain(100, 1, "rise 10;ask 10 w=0", 2, 115), 115);
        due("110 and 120, b 114", bargain(100, 1, "rise 10;ask 10 w=0", 2, 114), -5);
        due("105 and 106, b 105", bargain(100, 0, "rise 10;ask 6 w=0", 2, 105), 105);
        due("105 and 107, b 105", bargain(100, 0, "rise 10;ask 7 w=0", 2, 105), -5);
        due("99 and 100, b 99", bargain(100, 0, "rise 10", 2, 99), -5);
        due("99 and 101, b 99", bargain(100, 0, "rise 10;ask 1 w=0", 2, 99), -5);
        due("0 and 0", bargain(0, 0, "rise 0", 2, 0), 0);
    }

    private static void bargainBelowBelief() {
        by("-5: that is below BELIEF");
        PayUntold x = staffOf(2, 100, 140);
        build(x, "rise 20");
        due("first 0: 120 as belief 120", x.bargain(0, 0, 999), 120);
        due("first 1: 120 as belief 120", x.bargain(0, 1, 120), 120);
        due("first 2: 120 as belief 120", x.bargain(0, 2, 120), 120);
        build(x, "rise 19");
        due("first 0: 119 and 120", x.bargain(0, 0, 999), -5);
        due("first 1: 120", x.bargain(0, 1, 120), 120);
        due("first 2: 119 and 120", x.bargain(0, 2, 120), -5);
        due("first 1: 120 and 119", x.bargain(0, 1, 119), -5);
        build(x, "rise 19;ask 1 w=0");
        due("first 0: 119 and 121", x.bargain(0, 0, 999), 120);
        due("first 1: 121", x.bargain(0, 1, 999), 121);
        due("first 2: 119 and 121", x.bargain(0, 2, 999), 120);
        x.telling(1);
        due("by the range belief is alike", x.bargain(0, 0, 999), 120);
        x.knowing(0, 0, 0);
        x.telling(0);
        due("by nothing belief is its pay", x.bargain(0, 1, 999), 101);
        due("the glad one", x.bargain(1, 0, 999), 159);
        due("the glad one's belief", x.bargain(1, 1, 999), 120);
        due("the glad one, b as belief", x.bargain(1, 0, 120), 120);
        due("the glad one, b below belief", x.bargain(1, 0, 119), -5);
    }

    private static void bargainAboveB() {
        by("-5: or above b");
        PayUntold x = staff(100);
        x.knowing(0, 0, 3);
        build(x, "rise 10;ask 20 w=0");
        due("first 0: 110 and 120, b 115", x.bargain(0, 0, 115), 115);
        due("first 0: 110 and 120, b 114", x.bargain(0, 0, 114), -5);
        due("first 0: 110 and 120, b 116", x.bargain(0, 0, 116), 115);
        due("first 1: 150 and 149", x.bargain(0, 1, 149), 149);
        due("first 1: 150 and 148", x.bargain(0, 1, 148), -5);
        due("first 2: 110 and 150, b 130", x.bargain(0, 2, 130), 130);
        due("first 2: 110 and 150, b 129", x.bargain(0, 2, 129), -5);
    }

    private static void bargainOfTheGreatest() {
        by("for at most b (0 .. 999)");
        due("999 and rise 99", bargain(999, 0, "rise 99", 0, 999), 999);
        due("999 and rise 99, b 998", bargain(999, 0, "rise 99", 0, 998), -5);
        due("999 and wish 1 said first", bargain(999, 0, "ask 1 w=0", 1, 999), 999);
        due("999 and wish 2 said first", bargain(999, 0, "ask 2 w=0", 1, 999), -5);
        due("999 and v 1 said first", bargain(999, 1, "rise 0", 1, 999), -5);
        due("999 and wish 1 said at once", bargain(999, 0, "ask 1 w=0", 2, 999), 999);
        due("999 and wish 2 said at once", bargain(999, 0, "ask 2 w=0", 2, 999), -5);
        due("b 0 for pay 1", bargain(1, 0, "rise 0", 0, 0), -5);
    }

    private static void refusalsOfBargains() {
        by("bargain: NONE: worker, first (0, 1, 2); BAD");
        PayUntold x = staff(5, 6);
        for (int first = 0; first < 3; first++) {
            due("b -1", x.bargain(0, first, -1), PayUntold.BAD);
            due("b 1000", x.bargain(0, first, 1000), PayUntold.BAD);
            due("b 0", x.bargain(0, first, 0), -5);
            due("b 999", x.bargain(0, first, 999), first == 0 ? 10 : first == 1 ? 5 : 7);
            due("worker -1, b -1", x.bargain(-1, first, -1), PayUntold.NONE);
            due("worker 2, b 1000", x.bargain(2, first, 1000), PayUntold.NONE);
        }
        due("first -1", x.bargain(0, -1, 1), PayUntold.NONE);
        due("first 3", x.bargain(0, 3, 1), PayUntold.NONE);
        due("first 3, b 1000", x.bargain(0, 3, 1000), PayUntold.NONE);
        due("first -1, b -1", x.bargain(0, -1, -1), PayUntold.NONE);
    }
}
