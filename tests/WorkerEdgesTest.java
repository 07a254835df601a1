/** The edges of WORKERS, BELIEF and GLAD: a test of each sentence that names one. */
public final class WorkerEdgesTest extends Checks {
    public static void main(String[] args) {
        constants();
        newObject();
        desksInARow();
        tenWorkers();
        deskOfItsOwn();
        payAndWorthOfAWorker();
        twoLots();
        firstRefusalOfAWorker();
        payAndWorthSet();
        friendOrNobody();
        kindsAndNumbers();
        besideIsTheNearest();
        besideIsByDesks();
        meanIsCut();
        friendOnce();
        friendIsNotBesideHere();
        listedIsAll();
        rangedIsTheHalf();
        sayingAndFalse();
        tellings();
        beliefByTelling();
        gladTwice();
        leavesBelowLeave();
        leavesForMore();
        asksElse();
        whatOfAWorker();
        whatIsTold();
        calledFiveHundredTwelveTimes();
        end();
    }

    private static void constants() {
        by("NONE = -1, BAD = -2, STATE = -3, FULL = -4");
        due("NONE", PayUntold.NONE, -1);
        due("BAD", PayUntold.BAD, -2);
        due("STATE", PayUntold.STATE, -3);
        due("FULL", PayUntold.FULL, -4);
    }

    private static void newObject() {
        by("PayUntold(): Nobody, no HOUSE");
        PayUntold x = new PayUntold();
        int[] told = {20, 5, 0, 0, 0, 0};
        for (int what = 0; what < 6; what++) {
            due("count(" + what + ")", x.count(what), 0);
            due("told(" + what + ")", x.told(what), told[what]);
        }
        due("die(0)", x.die(0), 0);
        due("clear()", x.clear(), 0);
        due("image()", x.image(), 0);
        due("can(0)", x.can(0), 0);
        due("can(1)", x.can(1), 0);
        due("looked(0)", x.looked(0), -5);
        due("looked(1)", x.looked(1), 0);
        due("looked(2)", x.looked(2), 0);
        due("best(0)", x.best(0), 0);
        due("best(20)", x.best(20), 0);
        due("even(0)", x.even(0), 0);
        for (int telling = 0; telling < 4; telling++) {
            due("years(20, " + telling + ", 0)", x.years(20, telling, 0), 0);
            due("years(20, " + telling + ", 1)", x.years(20, telling, 1), 0);
            due("years(20, " + telling + ", 2)", x.years(20, telling, 2), 0);
        }
        due("year()", x.year(), 0);
        due("undo()", x.undo(), 0);
        due("two objects are two", new PayUntold().count(0), 0);
    }

    private static void desksInARow() {
        by("DESKS 0 .. 9 in a row");
        PayUntold x = new PayUntold();
        due("desk -1", x.worker(-1, 1, 1, 0), PayUntold.NONE);
        due("desk 10", x.worker(10, 1, 1, 0), PayUntold.NONE);
        due("nobody came", x.count(0), 0);
        due("desk 0", x.worker(0, 1, 1, 0), 0);
        due("desk 9", x.worker(9, 1, 1, 0), 1);
        due("its desk", x.of(0, 0), 0);
        due("its desk", x.of(1, 0), 9);
        due("desk 10 again", x.worker(10, 1, 1, 0), PayUntold.NONE);
        due("two came", x.count(0), 2);
    }

    private static void tenWorkers() {
        by("WORKERS are numbered from 0 on, 10 at most");
        PayUntold x = new PayUntold();
        int[] desks = {7, 2, 9, 0, 5, 1, 8, 3, 6, 4};
        for (int w = 0; w < 10; w++) {
            due("worker of desk " + desks[w], x.worker(desks[w], 10 * w, 11 * w, w % 2), w);
            due("workers", x.count(0), w + 1);
        }
        for (int desk = 0; desk < 10; desk++) {
            due("an eleventh at desk " + desk, x.worker(desk, 1, 1, 0), PayUntold.STATE);
        }
        due("workers", x.count(0), 10);
        for (int w = 0; w < 10; w++) {
            due("desk of " + w, x.of(w, 0), desks[w]);
            due("pay of " + w, x.of(w, 1), 10 * w);
            due("worth of " + w, x.of(w, 2), 11 * w);
            due("lot of " + w, x.of(w, 3), w % 2);
        }
        due("of worker 10", x.of(10, 0), -10001);
    }

    private static void deskOfItsOwn() {
        by("STATE: another one has that DESK");
        for (int desk = 0; desk < 10; desk++) {
            PayUntold x = new PayUntold();
            x.worker(desk, 5, 6, 1);
            due("desk " + desk, x.worker(desk, 7, 8, 0), PayUntold.STATE);
            due("nobody came", x.count(0), 1);
            due("pay of the first", x.of(0, 1), 5);
            due("worth of the first", x.of(0, 2), 6);
            due("lot of the first", x.of(0, 3), 1);
            due("another desk", x.worker(9 - desk, 7, 8, 0), 1);
        }
    }

    private static void payAndWorthOfAWorker() {
        by("PAY, WORTH (0 .. 999 each)");
        PayUntold x = new PayUntold();
        due("pay -1", x.worker(0, -1, 1, 0), PayUntold.BAD);
        due("pay 1000", x.worker(0, 1000, 1, 0), PayUntold.BAD);
        due("worth -1", x.worker(0, 1, -1, 0), PayUntold.BAD);
        due("worth 1000", x.worker(0, 1, 1000, 0), PayUntold.BAD);
        due("nobody came", x.count(0), 0);
        due("pay 0, worth 999", x.worker(0, 0, 999, 0), 0);
        due("pay 999, worth 0", x.worker(1, 999, 0, 0), 1);
        due("pay", x.of(0, 1), 0);
        due("worth", x.of(0, 2), 999);
        due("pay", x.of(1, 1), 999);
        due("worth", x.of(1, 2), 0);
    }

    private static void twoLots() {
        by("of a LOT (0, 1)");
        PayUntold x = new PayUntold();
        due("lot -1", x.worker(0, 1, 1, -1), PayUntold.NONE);
        due("lot 2", x.worker(0, 1, 1, 2), PayUntold.NONE);
        due("lot 0", x.worker(0, 1, 1, 0), 0);
        due("lot 1", x.worker(1, 1, 1, 1), 1);
        due("lot of 0", x.of(0, 3), 0);
        due("lot of 1", x.of(1, 3), 1);
    }

    private static void firstRefusalOfAWorker() {
        by("worker: NONE: desk, lot; BAD: pay, worth; STATE; FULL, of several the first one told");
        PayUntold x = new PayUntold();
        x.worker(4, 1, 1, 0);
        due("desk, pay", x.worker(10, 1000, 1, 0), PayUntold.NONE);
        due("desk, worth", x.worker(-1, 1, -1, 0), PayUntold.NONE);
        due("lot, pay", x.worker(1, -1, 1, 2), PayUntold.NONE);
        due("lot, worth", x.worker(1, 1, 1000, -1), PayUntold.NONE);
        due("lot, a desk that is had", x.worker(4, 1, 1, 2), PayUntold.NONE);
        due("pay, a desk that is had", x.worker(4, 1000, 1, 0), PayUntold.BAD);
        due("worth, a desk that is had", x.worker(4, 1, -1, 0), PayUntold.BAD);
        due("a desk that is had", x.worker(4, 1, 1, 0), PayUntold.STATE);
        PayUntold all = staff(0, 0, 0, 0, 0, 0, 0, 0, 0, 0);
        due("lot, all desks had", all.worker(4, 1, 1, 2), PayUntold.NONE);
        due("no such desk, all had", all.worker(10, 1, 1, 0), PayUntold.NONE);
        due("pay, all desks had", all.worker(4, 1000, 1, 0), PayUntold.BAD);
        due("all desks had", all.worker(4, 1, 1, 0), PayUntold.STATE);
    }

    private static void payAndWorthSet() {
        by("set: PAY, WORTH of a WORKER becomes n (0 .. 999): what it was");
        for (int what = 0; what < 2; what++) {
            PayUntold x = staff(5, 6);
            due("-1", x.set(1, what, -1), PayUntold.BAD);
            due("1000", x.set(1, what, 1000), PayUntold.BAD);
            due("0", x.set(1, what, 0), 6);
            due("999", x.set(1, what, 999), 0);
            due("999 again", x.set(1, what, 999), 999);
            due("it is so", x.of(1, 1 + what), 999);
            due("the other number stays", x.of(1, 2 - what), 6);
            due("the other worker stays", x.of(0, 1 + what), 5);
        }
        PayUntold x = staff(5, 6);
        due("what -1", x.set(1, -1, 1), PayUntold.NONE);
        due("what 2", x.set(1, 2, 1), PayUntold.NONE);
        due("what 2, n 1000", x.set(1, 2, 1000), PayUntold.NONE);
        due("what -1, n -1", x.set(1, -1, -1), PayUntold.NONE);
        due("worker 2, n 1000", x.set(2, 0, 1000), PayUntold.NONE);
        due("worker -1, n -1", x.set(-1, 1, -1), PayUntold.NONE);
    }

    private static void friendOrNobody() {
        by("a FRIEND (another WORKER, or nobody: at first)");
        PayUntold x = staff(1, 2, 3);
        for (int w = 0; w < 3; w++) {
            due("friend of " + w + " at first", x.of(w, 4), -5);
        }
        due("nobody becomes nobody", x.friend(0, -1), -5);
        due("the last one", x.friend(0, 2), -5);
        due("the first one", x.friend(2, 0), -5);
        due("one's own friend", x.of(0, 4), 2);
        due("the other's friend", x.of(2, 4), 0);
        due("the same again", x.friend(2, 0), 0);
        due("nobody", x.friend(2, -1), 0);
        due("nobody", x.of(2, 4), -5);
        due("the other's stays", x.of(0, 4), 2);
        by("friend: NONE: workers; BAD: itself");
        due("other 3", x.friend(1, 3), PayUntold.NONE);
        due("other -2", x.friend(1, -2), PayUntold.NONE);
        due("other -5", x.friend(1, -5), PayUntold.NONE);
        due("worker 3", x.friend(3, 0), PayUntold.NONE);
        due("worker -1", x.friend(-1, 0), PayUntold.NONE);
        due("both -1", x.friend(-1, -1), PayUntold.NONE);
        due("both 3", x.friend(3, 3), PayUntold.NONE);
        due("0 itself", x.friend(0, 0), PayUntold.BAD);
        due("2 itself", x.friend(2, 2), PayUntold.BAD);
        due("0 has the friend it had", x.of(0, 4), 2);
        due("1 has nobody", x.of(1, 4), -5);
    }

    private static void kindsAndNumbers() {
        by("a KNOWING of a KIND: 0 .. 6; a number v (0 .. 9)");
        PayUntold x = staff(1, 2);
        int was = 0;
        for (int kind = 6; kind >= 0; kind--) {
            due("kind " + kind + ", v 0", x.knowing(1, kind, 0), was);
            due("kind " + kind + ", v 9", x.knowing(1, kind, 9), kind);
            due("kind", x.of(1, 5), kind);
            due("v", x.of(1, 6), 9);
            due("kind " + kind + ", v 10", x.knowing(1, kind, 10), PayUntold.BAD);
            due("kind " + kind + ", v -1", x.knowing(1, kind, -1), PayUntold.BAD);
            due("kind 7, v 10", x.knowing(1, 7, 10), PayUntold.NONE);
            due("kind -1, v -1", x.knowing(1, -1, -1), PayUntold.NONE);
            due("worker 2, v 10", x.knowing(2, kind, 10), PayUntold.NONE);
            due("worker -1, v -1", x.knowing(-1, kind, -1), PayUntold.NONE);
            due("kind as it was", x.of(1, 5), kind);
            due("v as it was", x.of(1, 6), 9);
            was = kind;
        }
        due("the other's kind", x.of(0, 5), 0);
        due("the other's v", x.of(0, 6), 0);
        x.friend(1, 0);
        x.knowing(1, 3, 3);
        due("the friend stays", x.of(1, 4), 0);
        due("the pay stays", x.of(1, 1), 2);
    }

    /** GUESSED ones at some DESKS with PAY 1, 10, 100, so that a BELIEF tells who was counted. */
    private static PayUntold guessing(int... desks) {
        PayUntold x = new PayUntold();
        int pay = 1;
        for (int w = 0; w < desks.length; w++) {
            x.worker(desks[w], pay, 0, 0);
            x.knowing(w, 1, 9);
            pay *= 10;
        }
        return x;
    }

    private static void besideIsTheNearest() {
        by("BESIDE one is on each side the nearest one, if there is any");
        for (int desk = 0; desk < 10; desk++) {
            due("alone at desk " + desk, guessing(desk).of(0, 7), 1);
        }
        PayUntold far = guessing(0, 9);
        due("from desk 0 to desk 9", far.of(0, 7), 11 / 2);
        due("from desk 9 to desk 0", far.of(1, 7), 11 / 2);
        PayUntold row = guessing(4, 5, 6);
        due("one on its right", row.of(0, 7), 11 / 2);
        due("one on each side", row.of(1, 7), 111 / 3);
        due("one on its left", row.of(2, 7), 110 / 2);
        PayUntold wide = guessing(0, 4, 9);
        due("one on its right, far", wide.of(0, 7), 11 / 2);
        due("one on each side, far", wide.of(1, 7), 111 / 3);
        due("one on its left, far", wide.of(2, 7), 110 / 2);
        PayUntold ring = guessing(0, 1, 9);
        due("the row is no ring: desk 0", ring.of(0, 7), 11 / 2);
        due("the row is no ring: desk 9", ring.of(2, 7), 110 / 2);
        PayUntold many = staffOf(1, 0, 0, 0, 0, 0, 500, 0, 0, 0, 0);
        due("desk 0 beside desk 1", many.of(0, 7), 250);
        due("desk 2 beside desk 1", many.of(1, 7), 500 / 3);
        due("desk 1", many.of(5, 7), 500 / 3);
        due("desk 3 not beside desk 1", many.of(6, 7), 0);
        due("desk 9 not beside desk 1", many.of(9, 7), 0);
    }

    private static void besideIsByDesks() {
        by("DESKS in a row: BESIDE by them, not by numbers");
        PayUntold x = guessing(8, 1, 5);
        due("desk 8 beside desk 5", x.of(0, 7), 101 / 2);
        due("desk 1 beside desk 5", x.of(1, 7), 110 / 2);
        due("desk 5 between them", x.of(2, 7), 111 / 3);
        x.worker(6, 0, 0, 0);
        due("one comes between", x.of(0, 7), 1 / 2);
        due("one comes between", x.of(2, 7), 110 / 3);
        due("on the other side nothing is new", x.of(1, 7), 110 / 2);
    }

    private static void meanIsCut() {
        by("MEAN of some: of their PAY, together, by how many they are (cut)");
        due("0, 1", staffOf(2, 0, 1).of(0, 7), 0);
        due("1, 2", staffOf(2, 1, 2).of(0, 7), 1);
        due("999, 998", staffOf(2, 999, 998).of(0, 7), 998);
        due("1, 1, 0", staffOf(2, 1, 1, 0).of(0, 7), 0);
        due("1, 1, 1", staffOf(2, 1, 1, 1).of(0, 7), 1);
        due("999, 999, 998", staffOf(2, 999, 999, 998).of(0, 7), 998);
        due("ten of 999", staffOf(2, 999, 999, 999, 999, 999, 999, 999, 999, 999, 999).of(9, 7), 999);
        due("ten, one below", staffOf(2, 999, 999, 999, 999, 999, 999, 999, 999, 999, 998).of(9, 7), 998);
        due("ten, together 9", staffOf(2, 0, 0, 0, 0, 0, 0, 0, 0, 0, 9).of(9, 7), 0);
        due("ten, together 10", staffOf(2, 0, 0, 0, 0, 0, 0, 0, 0, 0, 10).of(9, 7), 1);
        due("guessed, 1 and 2", staffOf(1, 1, 2).of(0, 7), 1);
        due("guessed, 1, 1 and 3", staffOf(1, 1, 1, 3).of(1, 7), 1);
    }

    private static void friendOnce() {
        by("FRIENDLY: that of itself, those BESIDE it, and its FRIEND (each once)");
        PayUntold x = staffOf(4, 8, 100, 40, 600, 0);
        due("without a friend", x.of(2, 7), 740 / 3);
        x.friend(2, 1);
        due("its friend is on its left", x.of(2, 7), 740 / 3);
        x.friend(2, 3);
        due("its friend is on its right", x.of(2, 7), 740 / 3);
        x.friend(2, 0);
        due("its friend is worker 0", x.of(2, 7), 748 / 4);
        x.friend(2, 4);
        due("its friend is the last one", x.of(2, 7), 740 / 4);
        x.friend(2, -1);
        due("it has no friend again", x.of(2, 7), 740 / 3);
        x.friend(0, 1);
        due("at the end of the row, beside it", x.of(0, 7), 108 / 2);
        x.friend(0, 4);
        due("at the end of the row, far", x.of(0, 7), 108 / 3);
        x.friend(4, 0);
        due("at the other end", x.of(4, 7), 608 / 3);
        PayUntold two = staffOf(4, 10, 21);
        two.friend(0, 1);
        due("of two", two.of(0, 7), 15);
        due("alone", staffOf(4, 7).of(0, 7), 7);
    }

    private static void friendIsNotBesideHere() {
        by("GUESSED: the MEAN of itself and those BESIDE it");
        PayUntold x = staffOf(1, 8, 100, 40, 600, 0);
        x.friend(0, 3);
        due("a friend far off is not counted", x.of(0, 7), 54);
        x.knowing(0, 0, 9);
        due("knowing counts itself alone", x.of(0, 7), 8);
        x.knowing(0, 3, 0);
        due("saying counts itself alone", x.of(0, 7), 8);
        x.friend(4, 0);
        x.knowing(0, 4, 0);
        due("whose friend it is, is not counted", x.of(0, 7), 708 / 3);
    }

    private static void listedIsAll() {
        by("LISTED: the MEAN of all");
        PayUntold x = staffOf(2, 5, 6, 7, 1000 - 1, 0);
        for (int w = 0; w < 5; w++) {
            due("of worker " + w, x.of(w, 7), 1017 / 5);
        }
        due("alone", staffOf(2, 999).of(0, 7), 999);
        due("alone with 0", staffOf(2, 0).of(0, 7), 0);
    }

    private static void rangedIsTheHalf() {
        by("RANGED: the half (cut) of the least and the greatest PAY of all, together");
        due("0, 999", staffOf(5, 0, 999).of(0, 7), 499);
        due("999, 0, 998", staffOf(5, 999, 0, 998).of(2, 7), 499);
        due("1, 2", staffOf(5, 1, 2).of(1, 7), 1);
        due("5, 1, 3", staffOf(5, 5, 1, 3).of(2, 7), 3);
        due("1, 5, 5, 5", staffOf(5, 1, 5, 5, 5).of(0, 7), 3);
        due("all alike", staffOf(5, 7, 7, 7).of(0, 7), 7);
        due("alone with 0", staffOf(5, 0).of(0, 7), 0);
        due("alone with 1", staffOf(5, 1).of(0, 7), 1);
        due("alone with 999", staffOf(5, 999).of(0, 7), 999);
        due("998, 999", staffOf(5, 998, 999).of(0, 7), 998);
    }

    private static void believes(int kind, int v, int pay, int want) {
        PayUntold x = staff(pay, 500);
        x.knowing(0, kind, v);
        due("kind " + kind + ", v " + v + ", pay " + pay, x.of(0, 7), want);
        due("glad: kind " + kind + ", v " + v + ", pay " + pay, x.of(0, 8), pay - want);
    }

    private static void sayingAndFalse() {
        by("SAYING: its own PAY and v. FALSE: as SAYING, and 10 times v more");
        believes(0, 9, 999, 999);
        believes(0, 9, 0, 0);
        believes(3, 0, 0, 0);
        believes(3, 9, 0, 9);
        believes(3, 1, 998, 999);
        believes(3, 1, 999, 1000);
        believes(3, 9, 999, 1008);
        believes(6, 0, 0, 0);
        believes(6, 1, 0, 11);
        believes(6, 9, 0, 99);
        believes(6, 0, 999, 999);
        believes(6, 9, 999, 1098);
    }

    private static void tellings() {
        by("TELLING: 0 nothing (at first), 1 the range, 2 the mean, 3 all");
        PayUntold x = new PayUntold();
        due("at first", x.told(2), 0);
        due("-1", x.telling(-1), PayUntold.NONE);
        due("4", x.telling(4), PayUntold.NONE);
        due("as it was", x.told(2), 0);
        due("3", x.telling(3), 0);
        due("4", x.telling(4), PayUntold.NONE);
        due("0", x.telling(0), 3);
        due("0 again", x.telling(0), 0);
        due("1", x.telling(1), 0);
        due("2", x.telling(2), 1);
        due("as told", x.told(2), 2);
    }

    private static void beliefByTelling() {
        by("by TELLING 1 all as RANGED, that are not LISTED (nor under it); by TELLING 2, 3 all as LISTED");
        int mean = 1109 / 5;
        int half = 609 / 2;
        int[] byNothing = {100, 111 / 2, mean, 104, 709 / 3, half, 144};
        for (int kind = 0; kind < 7; kind++) {
            PayUntold x = staff(100, 11, 180, 598, 220);
            x.friend(0, 3);
            x.knowing(0, kind, 4);
            due("kind " + kind + " by telling 0", x.of(0, 7), byNothing[kind]);
            x.telling(1);
            due("kind " + kind + " by telling 1", x.of(0, 7), kind == 2 ? mean : half);
            x.telling(2);
            due("kind " + kind + " by telling 2", x.of(0, 7), mean);
            x.telling(3);
            due("kind " + kind + " by telling 3", x.of(0, 7), mean);
            x.telling(0);
            due("kind " + kind + " by telling 0 again", x.of(0, 7), byNothing[kind]);
        }
    }

    private static void gladTwice() {
        by("GLAD: PAY less BELIEF; by TELLING 3, if that is below 0, twice that");
        int[] others = {98, 100, 102, 104, 0, 999};
        int[] glad = {1, 0, -1, -2, 50, -449};
        for (int i = 0; i < others.length; i++) {
            PayUntold x = staffOf(2, 100, others[i]);
            for (int telling = 0; telling < 4; telling++) {
                x.telling(telling);
                due("glad of 100 with " + others[i] + " by telling " + telling, x.of(0, 8),
                    telling == 3 && glad[i] < 0 ? 2 * glad[i] : glad[i]);
            }
        }
    }

    /** What worker 0 does, LISTED, with a WORTH, while the MEAN is 100. */
    private static int does(String text, int telling, int pay, int worth) {
        PayUntold x = staffOf(2, pay, 200 - pay);
        build(x, text);
        x.telling(telling);
        x.set(0, 1, worth);
        return x.of(0, 11);
    }

    private static void leavesBelowLeave() {
        by("It LEAVES, if GLAD and leave, together, are below 0");
        due("glad -20, leave as without", does("rise 1", 0, 80, 999), 1);
        due("glad -21, leave as without", does("rise 1", 0, 79, 999), 2);
        due("glad 0, leave 0", does("leave 0", 0, 100, 999), 0);
        due("glad -1, leave 0", does("leave 0", 0, 99, 999), 2);
        due("glad -1, leave 1", does("leave 1", 0, 99, 999), 1);
        due("glad -2, leave 1", does("leave 1", 0, 98, 999), 2);
        due("glad -99, leave 99", does("leave 99", 0, 1, 999), 1);
        due("glad -100, leave 99", does("leave 99", 0, 0, 999), 2);
        due("glad -10 by telling 2, leave 19", does("leave 19", 2, 90, 999), 1);
        due("glad twice -10 by telling 3, leave 19", does("leave 19", 3, 90, 999), 2);
        due("glad twice -10 by telling 3, leave 20", does("leave 20", 3, 90, 999), 1);
        due("glad 100 by telling 3, leave 0", does("leave 0", 3, 200, 999), 0);
    }

    private static void leavesForMore() {
        by("It LEAVES, if .. and OFFER is above PAY");
        due("an offer as pay", does("leave 0", 0, 50, 50), 1);
        due("an offer one above pay", does("leave 0", 0, 50, 51), 2);
        due("an offer one below pay", does("leave 0", 0, 50, 49), 1);
        due("an offer of 0", does("leave 0", 0, 0, 0), 1);
        due("an offer of 1", does("leave 0", 0, 0, 1), 2);
        due("cut down to pay", does("leave 0;cut 5 w=0", 0, 50, 55), 1);
        due("cut down to one above pay", does("leave 0;cut 5 w=0", 0, 50, 56), 2);
        due("brought up to pay", does("leave 0;offer 5 w=0", 0, 50, 45), 1);
        due("brought up to one above pay", does("leave 0;offer 5 w=0", 0, 50, 46), 2);
        PayUntold x = staff(999);
        x.knowing(0, 6, 9);
        build(x, "leave 0;offer 99 w=0");
        due("glad of pay 999", x.of(0, 8), -99);
        due("above 999 there is no offer", x.of(0, 11), 1);
        x.set(0, 0, 998);
        due("an offer of 999", x.of(0, 11), 2);
    }

    private static void asksElse() {
        by("Else it ASKS, if GLAD is below 0, or WISH is above 0");
        due("glad 0, no wish", does("rise 1", 0, 100, 0), 0);
        due("glad -1, no wish", does("rise 1", 0, 99, 0), 1);
        due("glad 1, no wish", does("rise 1", 0, 101, 0), 0);
        due("glad 0, wish 0", does("ask 0 w=0", 0, 100, 0), 0);
        due("glad 0, wish 1", does("ask 1 w=0", 0, 100, 0), 1);
        due("glad 0, a wish of the other one", does("ask 1 w=1", 0, 100, 0), 0);
        due("glad 100, wish 1", does("ask 1 w=0", 0, 200, 0), 1);
        due("glad 0, wish 1, offer 999", does("ask 1 w=0;leave 0", 0, 100, 999), 1);
        due("glad 100, wish 99, offer 999", does("ask 99 w=0;leave 0", 0, 200, 999), 1);
        due("what leaves does not ask", does("ask 9 w=0;leave 0", 0, 99, 999), 2);
        due("glad -1 by telling 3", does("rise 1", 3, 99, 0), 1);
        due("glad 0 by telling 3", does("rise 1", 3, 100, 0), 0);
    }

    private static void whatOfAWorker() {
        by("of: -10001: NONE");
        PayUntold x = staff(1, 2);
        for (int what = 0; what < 12; what++) {
            due("of(-1, " + what + ")", x.of(-1, what), -10001);
            due("of(2, " + what + ")", x.of(2, what), -10001);
            due("of(0, " + what + ") is told", x.of(0, what) == -10001 ? 1 : 0, 0);
        }
        due("of(0, -1)", x.of(0, -1), -10001);
        due("of(0, 12)", x.of(0, 12), -10001);
        due("of(2, 12)", x.of(2, 12), -10001);
        due("of nobody", new PayUntold().of(0, 0), -10001);
    }

    private static void whatIsTold() {
        by("told: -10001: NONE");
        PayUntold x = staff(0, 999);
        due("told(-1)", x.told(-1), -10001);
        due("told(6)", x.told(6), -10001);
        due("gap, far below 0", x.told(4), -999);
        due("all pay", x.told(5), 999);
        PayUntold ten = staff(999, 999, 999, 999, 999, 999, 999, 999, 999, 999);
        due("all pay of ten", ten.told(5), 9990);
        due("gap of ten", ten.told(4), 0);
    }

    private static void calledFiveHundredTwelveTimes() {
        by("An object is used for at most 512 calls");
        PayUntold x = new PayUntold();
        for (int call = 1; call <= 511; call++) {
            due("fault in call " + call, x.house(), -10);
        }
        due("call 512", x.worker(9, 1, 1, 1), 0);
        PayUntold y = staffOf(1, 10, 20, 30, 40, 50, 60, 70, 80, 90, 100);
        int best = y.best(20);
        for (int call = 22; call <= 511; call++) {
            due("best in call " + call, y.best(20), best);
        }
        due("call 512", y.told(5), 550);
    }
}
