/** The edges of the BAG, KNOWN, ADVERTS and the LIST: a test of each sentence that names one. */
public final class PaperEdgesTest extends Checks {
    public static void main(String[] args) {
        dieAtItsEdges();
        slipInTheOrderOfDesks();
        slipRoundTenThousand();
        slipAtItsEdges();
        sumOfNobody();
        sumWithoutTheDie();
        knownByBothSides();
        knownRound();
        knownOfAllOthers();
        knownOfOthersAlone();
        knownBits();
        twelveAdverts();
        advertAtItsEdges();
        firstRefusalOfAnAdvert();
        allAdvertsGone();
        spanWithoutRows();
        spanOfAllItsRows();
        spanOfNone();
        refusalsOfSpans();
        canOfSpans();
        canIsCut();
        canOfNone();
        canOfNobody();
        tenListed();
        listAtItsEdges();
        listIsEmptied();
        lookedAsFarAsBothGo();
        lookedForTheFirst();
        lookedForLessAndMore();
        lookedAtItsEdges();
        end();
    }

    private static void dieAtItsEdges() {
        by("a die (0 .. 9999; 0 at first): what it was. BAD");
        PayUntold x = new PayUntold();
        due("-1", x.die(-1), PayUntold.BAD);
        due("10000", x.die(10000), PayUntold.BAD);
        due("9999", x.die(9999), 0);
        due("10000", x.die(10000), PayUntold.BAD);
        due("9999 again", x.die(9999), 9999);
        due("0", x.die(0), 9999);
        due("-1", x.die(-1), PayUntold.BAD);
        due("1", x.die(1), 0);
        due("2", x.die(2), 1);
    }

    private static void slipInTheOrderOfDesks() {
        by("a slip goes from WORKER to WORKER in the order of DESKS");
        PayUntold x = new PayUntold();
        int[] desks = {5, 9, 0, 7};
        int[] pay = {1, 10, 100, 900};
        for (int w = 0; w < 4; w++) {
            x.worker(desks[w], pay[w], 0, w % 2);
        }
        int[] slips = {100, 101, 1001, 1011};
        for (int k = 0; k < 4; k++) {
            due("slip(" + k + ")", x.slip(k), slips[k]);
        }
        due("sum", x.slip(-1), 1011);
        x.worker(1, 5, 0, 0);
        due("the first one", x.slip(0), 100);
        due("one comes at desk 1", x.slip(1), 105);
        due("the last one", x.slip(4), 1016);
        x.die(30);
        due("the first one begins with the die", x.slip(0), 130);
        due("the last one", x.slip(4), 1046);
        due("sum", x.slip(-1), 1016);
        x.set(2, 0, 0);
        due("pay 0 at desk 0", x.slip(0), 30);
    }

    private static void slipRoundTenThousand() {
        by("each adds PAY (modulo 10000)");
        PayUntold x = staff(1, 0, 999);
        int[] dice = {9998, 9999, 9000, 9001, 8999, 0};
        int[][] slips = {{9999, 9999, 998}, {0, 0, 999}, {9001, 9001, 0}, {9002, 9002, 1}, {9000, 9000, 9999},
            {1, 1, 1000}};
        for (int i = 0; i < dice.length; i++) {
            x.die(dice[i]);
            for (int k = 0; k < 3; k++) {
                due("slip(" + k + ") with die " + dice[i], x.slip(k), slips[i][k]);
            }
            due("sum with die " + dice[i], x.slip(-1), 1000);
        }
        PayUntold ten = staff(999, 999, 999, 999, 999, 999, 999, 999, 999, 999);
        ten.die(9999);
        due("ten by 999", ten.slip(9), 9989);
        due("the first of ten", ten.slip(0), 998);
        due("sum of ten", ten.slip(-1), 9990);
        ten.die(10);
        due("ten by 999 with die 10", ten.slip(9), 0);
        due("sum of ten", ten.slip(-1), 9990);
        ten.die(9);
        due("ten by 999 with die 9", ten.slip(9), 9999);
    }

    private static void slipAtItsEdges() {
        by("slip: SLIP of k (0 .. as many WORKERS as there are, less 1); k -1: SUM. NONE");
        PayUntold x = new PayUntold();
        for (int workers = 1; workers <= 10; workers++) {
            x.worker(10 - workers, workers, 0, 0);
            due("slip(-2) of " + workers, x.slip(-2), PayUntold.NONE);
            due("slip(" + workers + ") of " + workers, x.slip(workers), PayUntold.NONE);
            due("the last slip of " + workers, x.slip(workers - 1), workers * (workers + 1) / 2);
            due("the first slip of " + workers, x.slip(0), workers);
        }
    }

    private static void sumOfNobody() {
        by("slip: SUM (0 without WORKERS)");
        PayUntold x = new PayUntold();
        due("slip(-1)", x.slip(-1), 0);
        x.die(9999);
        due("slip(-1) with a die", x.slip(-1), 0);
        due("slip(0)", x.slip(0), PayUntold.NONE);
        due("slip(1)", x.slip(1), PayUntold.NONE);
        due("slip(-2)", x.slip(-2), PayUntold.NONE);
        x.worker(3, 0, 0, 0);
        due("one with pay 0", x.slip(-1), 0);
        due("its slip", x.slip(0), 9999);
    }

    private static void sumWithoutTheDie() {
        by("SUM: the slip less the die (modulo 10000)");
        int[] dice = {0, 1, 4999, 5000, 9998, 9999};
        for (int die : dice) {
            PayUntold x = staff(1, 2);
            x.die(die);
            due("sum with die " + die, x.slip(-1), 3);
            due("the die stays " + die, x.die(0), die);
            PayUntold one = staff(0);
            one.die(die);
            due("sum 0 with die " + die, one.slip(-1), 0);
        }
    }

    /** WORKERS at desks so that their order is 3 1 0 2. */
    private static PayUntold row() {
        PayUntold x = new PayUntold();
        int[] desks = {6, 4, 9, 1};
        for (int w = 0; w < 4; w++) {
            x.worker(desks[w], w, w, 0);
        }
        return x;
    }

    private static void knownByBothSides() {
        by("KNOWN: one, if the one ahead of it and the one behind it are both of them");
        PayUntold x = row();
        due("1 and 2 stand around 0, and around 3", x.known(0b0110), 0b1001);
        due("3 and 0 stand around 1, and around 2", x.known(0b1001), 0b0110);
        due("3 and 1 stand together", x.known(0b1010), 0);
        due("1 and 0 stand together", x.known(0b0011), 0);
        due("0 and 2 stand together", x.known(0b0101), 0);
        for (int w = 0; w < 4; w++) {
            due("one alone, " + w, x.known(1 << w), 0);
        }
        due("nobody", x.known(0), 0);
    }

    private static void knownRound() {
        by("ahead of the first one: the last one, and so round");
        PayUntold x = new PayUntold();
        for (int w = 0; w < 5; w++) {
            x.worker(2 * w, w, w, 0);
        }
        due("1 and 4 around the first", x.known(0b10010), 0b00001);
        due("0 and 3 around the last", x.known(0b01001), 0b10000);
        due("0 and 2 around 1", x.known(0b00101), 0b00010);
        due("1 and 3 around 2", x.known(0b01010), 0b00100);
        due("2 and 4 around 3", x.known(0b10100), 0b01000);
        due("first and last stand together", x.known(0b10001), 0);
        due("0, 1 and 3", x.known(0b01011), 0b10100);
        PayUntold ten = staff(0, 1, 2, 3, 4, 5, 6, 7, 8, 9);
        due("each second one of ten", ten.known(0b0000011111), 0b1111100000);
        due("the others of ten", ten.known(0b1111100000), 0b0000011111);
    }

    private static void knownOfAllOthers() {
        by("KNOWN: and one, if all others are of them (also if there are none)");
        due("one alone, nobody tells", staff(7).known(0), 1);
        due("one alone tells", staff(7).known(1), 0);
        PayUntold two = staff(7, 8);
        due("two, nobody tells", two.known(0), 0);
        due("two, 0 tells", two.known(1), 2);
        due("two, 1 tells", two.known(2), 1);
        due("two, both tell", two.known(3), 0);
        PayUntold three = staff(7, 8, 9);
        due("three, one tells", three.known(2), 0);
        due("three, two tell", three.known(3), 4);
        due("three, two others tell", three.known(5), 2);
        PayUntold ten = staff(0, 1, 2, 3, 4, 5, 6, 7, 8, 9);
        for (int w = 0; w < 10; w++) {
            due("all but " + w, ten.known(1023 - (1 << w)), 1 << w);
        }
    }

    private static void knownOfOthersAlone() {
        by("KNOWN: of others those whose PAY they know for sure");
        for (int workers = 1; workers <= 10; workers++) {
            PayUntold x = staff(new int[workers]);
            int all = (1 << workers) - 1;
            due("all " + workers + " tell", x.known(all), 0);
        }
        PayUntold x = row();
        for (int some = 0; some < 16; some++) {
            due("none of " + some + " is another one", x.known(some) & some, 0);
        }
    }

    private static void knownBits() {
        by("known: BAD: bits of WORKERS that are not there");
        for (int workers = 0; workers <= 10; workers++) {
            PayUntold x = staff(new int[workers]);
            int next = 1 << workers;
            due("bit " + workers + " of " + workers, x.known(next), PayUntold.BAD);
            due("all bits and one more", x.known(2 * next - 1), PayUntold.BAD);
            due("a bit and bit 31", x.known(Integer.MIN_VALUE | next - 1), PayUntold.BAD);
            due("bit 31", x.known(Integer.MIN_VALUE), PayUntold.BAD);
            due("bit 30", x.known(1 << 30), PayUntold.BAD);
            due("-1", x.known(-1), PayUntold.BAD);
            due("all there are", x.known(next - 1), 0);
        }
    }

    private static void twelveAdverts() {
        by("ADVERTS: 12 at most");
        PayUntold x = staff(7, 8);
        for (int row = 1; row <= 12; row++) {
            due("row " + row, x.advert(row % 2, row, 900 - row), row);
            due("rows", x.count(2), row);
        }
        due("row 13", x.advert(0, 0, 0), PayUntold.FULL);
        due("row 13", x.advert(1, 900, 999), PayUntold.FULL);
        due("rows", x.count(2), 12);
        due("the twelfth counts", x.span(0, 0), 12);
        due("the twelfth counts", x.span(0, 1), 888);
        due("the eleventh counts", x.span(1, 0), 11);
        due("all are gone", x.clear(), 12);
        due("the first again", x.advert(0, 5, 6), 1);
        due("no old one is left", x.span(1, 0), 0);
        due("no old one is left", x.span(0, 1), 6);
    }

    private static void advertAtItsEdges() {
        by("a least and a greatest PAY (0 .. 999); BAD: a number, the least above the greatest");
        PayUntold x = staff(7);
        due("least -1", x.advert(0, -1, 5), PayUntold.BAD);
        due("least 1000", x.advert(0, 1000, 1000), PayUntold.BAD);
        due("greatest 1000", x.advert(0, 5, 1000), PayUntold.BAD);
        due("greatest -1", x.advert(0, -1, -1), PayUntold.BAD);
        due("least one above", x.advert(0, 6, 5), PayUntold.BAD);
        due("999 and 0", x.advert(0, 999, 0), PayUntold.BAD);
        due("none came", x.count(2), 0);
        due("alike", x.advert(0, 5, 5), 1);
        due("0 and 0", x.advert(0, 0, 0), 2);
        due("999 and 999", x.advert(0, 999, 999), 3);
        due("0 and 999", x.advert(0, 0, 999), 4);
        due("5 and 6", x.advert(0, 5, 6), 5);
    }

    private static void firstRefusalOfAnAdvert() {
        by("advert: NONE: worker; BAD; FULL, of several the first one told");
        PayUntold x = staff(7, 8);
        due("worker, least", x.advert(2, -1, 5), PayUntold.NONE);
        due("worker, greatest", x.advert(-1, 5, 1000), PayUntold.NONE);
        due("worker, least above", x.advert(2, 6, 5), PayUntold.NONE);
        due("nobody is there", new PayUntold().advert(0, 6, 5), PayUntold.NONE);
        for (int row = 0; row < 12; row++) {
            x.advert(0, 0, 999);
        }
        due("full, worker", x.advert(2, 5, 6), PayUntold.NONE);
        due("full, worker -1 and least", x.advert(-1, -1, 6), PayUntold.NONE);
        due("full, least", x.advert(0, -1, 6), PayUntold.BAD);
        due("full, greatest", x.advert(0, 1, 1000), PayUntold.BAD);
        due("full, least above", x.advert(0, 6, 5), PayUntold.BAD);
        due("full", x.advert(0, 5, 6), PayUntold.FULL);
    }

    private static void allAdvertsGone() {
        by("All ADVERTS are gone: how many there were");
        PayUntold x = staff(7, 8);
        due("of none", x.clear(), 0);
        x.advert(0, 5, 6);
        x.advert(0, 7, 8);
        x.advert(1, 1, 1);
        due("none goes with both rows", x.span(0, 0), -5);
        due("of three", x.clear(), 3);
        due("of none again", x.clear(), 0);
        due("rows", x.count(2), 0);
        due("span", x.span(0, 0), 0);
        due("span", x.span(0, 1), 999);
        due("span", x.span(1, 1), 999);
    }

    private static void spanWithoutRows() {
        by("SPAN: 0, 999 without");
        PayUntold x = staff(7, 8);
        x.advert(0, 50, 60);
        due("least of the other", x.span(1, 0), 0);
        due("greatest of the other", x.span(1, 1), 999);
        due("pay is nothing to it", x.set(1, 0, 500), 8);
        due("least", x.span(1, 0), 0);
        due("greatest", x.span(1, 1), 999);
    }

    private static void spans(PayUntold x, int least, int greatest) {
        due("least", x.span(0, 0), least);
        due("greatest", x.span(0, 1), greatest);
    }

    private static void spanOfAllItsRows() {
        by("SPAN: the least, the greatest PAY that goes with all its rows");
        PayUntold x = staff(7, 8);
        x.advert(0, 100, 900);
        spans(x, 100, 900);
        x.advert(0, 50, 950);
        spans(x, 100, 900);
        x.advert(0, 200, 950);
        spans(x, 200, 900);
        x.advert(0, 0, 800);
        spans(x, 200, 800);
        x.advert(1, 300, 400);
        spans(x, 200, 800);
        x.advert(0, 800, 800);
        spans(x, 800, 800);
        PayUntold touching = staff(7);
        touching.advert(0, 0, 40);
        touching.advert(0, 40, 999);
        spans(touching, 40, 40);
        PayUntold ends = staff(7);
        ends.advert(0, 0, 0);
        spans(ends, 0, 0);
        PayUntold top = staff(7);
        top.advert(0, 999, 999);
        spans(top, 999, 999);
    }

    private static void spanOfNone() {
        by("SPAN: -5: none does");
        PayUntold x = staff(7, 8);
        x.advert(0, 0, 40);
        x.advert(0, 41, 999);
        spans(x, -5, -5);
        due("of the other", x.span(1, 0), 0);
        x.advert(0, 40, 41);
        spans(x, -5, -5);
        PayUntold three = staff(7);
        three.advert(0, 10, 30);
        three.advert(0, 30, 50);
        spans(three, 30, 30);
        three.advert(0, 20, 29);
        spans(three, -5, -5);
        PayUntold turned = staff(7);
        turned.advert(0, 999, 999);
        turned.advert(0, 0, 998);
        spans(turned, -5, -5);
    }

    private static void refusalsOfSpans() {
        by("span: what 0 the least, 1 the greatest; NONE");
        PayUntold x = staff(7, 8);
        due("what -1", x.span(0, -1), PayUntold.NONE);
        due("what 2", x.span(0, 2), PayUntold.NONE);
        due("worker -1", x.span(-1, 0), PayUntold.NONE);
        due("worker 2", x.span(2, 1), PayUntold.NONE);
        due("nobody", new PayUntold().span(0, 0), PayUntold.NONE);
    }

    private static void canOfSpans() {
        by("CAN: the least, the greatest that the MEAN of all can be by SPANS");
        PayUntold x = staff(7, 8, 9);
        due("least without rows", x.can(0), 0);
        due("greatest without rows", x.can(1), 999);
        x.advert(1, 300, 600);
        due("least", x.can(0), 100);
        due("greatest", x.can(1), 2598 / 3);
        x.advert(1, 330, 700);
        due("least", x.can(0), 110);
        due("greatest", x.can(1), 2598 / 3);
        x.advert(0, 30, 90);
        x.advert(2, 60, 210);
        due("least", x.can(0), 140);
        due("greatest", x.can(1), 300);
        due("pay is nothing to it", x.set(0, 0, 999), 7);
        due("least", x.can(0), 140);
    }

    private static void canIsCut() {
        by("CAN: MEAN (cut)");
        PayUntold x = staff(7, 8, 9);
        x.advert(0, 1, 2);
        x.advert(1, 1, 1);
        x.advert(2, 0, 2);
        due("2 by 3", x.can(0), 0);
        due("5 by 3", x.can(1), 1);
        PayUntold ten = staff(new int[10]);
        ten.advert(9, 9, 998);
        due("9 by 10", ten.can(0), 0);
        due("9989 by 10", ten.can(1), 998);
        ten.advert(8, 1, 999);
        due("10 by 10", ten.can(0), 1);
    }

    private static void canOfNone() {
        by("CAN: -5: one has none");
        for (int w = 0; w < 3; w++) {
            PayUntold x = staff(7, 8, 9);
            x.advert(w, 5, 6);
            x.advert((w + 1) % 3, 5, 5);
            due("all have one", x.can(0), 10 / 3);
            x.advert(w, 7, 8);
            due("least, " + w + " has none", x.can(0), -5);
            due("greatest, " + w + " has none", x.can(1), -5);
            x.clear();
            due("all have one again", x.can(1), 999);
        }
    }

    private static void canOfNobody() {
        by("CAN: 0: there are no WORKERS. NONE");
        PayUntold x = new PayUntold();
        due("least", x.can(0), 0);
        due("greatest", x.can(1), 0);
        due("what 2", x.can(2), PayUntold.NONE);
        due("what -1", x.can(-1), PayUntold.NONE);
        x.worker(0, 5, 5, 0);
        due("one", x.can(1), 999);
        due("what 2", x.can(2), PayUntold.NONE);
        due("what -1", x.can(-1), PayUntold.NONE);
    }

    private static void tenListed() {
        by("A LIST told by hand: 10 at most");
        PayUntold x = staff(new int[10]);
        for (int i = 1; i <= 10; i++) {
            due("number " + i, x.list(i), i);
            due("listed", x.count(3), i);
        }
        due("number 11", x.list(5), PayUntold.FULL);
        due("number 11, 0", x.list(0), PayUntold.FULL);
        due("number 11, 999", x.list(999), PayUntold.FULL);
        due("listed", x.count(3), 10);
        due("all ten have less", x.looked(1), 10);
        by("list: BAD; FULL, of several the first one told");
        due("number 11, -2", x.list(-2), PayUntold.BAD);
        due("number 11, 1000", x.list(1000), PayUntold.BAD);
        due("number 11, -1", x.list(-1), 0);
        due("the first again", x.list(7), 1);
    }

    private static void listAtItsEdges() {
        by("list: PAY (0 .. 999). BAD");
        PayUntold x = new PayUntold();
        due("-2", x.list(-2), PayUntold.BAD);
        due("1000", x.list(1000), PayUntold.BAD);
        due("listed", x.count(3), 0);
        due("0", x.list(0), 1);
        due("999", x.list(999), 2);
        due("-2", x.list(-2), PayUntold.BAD);
        due("listed", x.count(3), 2);
    }

    private static void listIsEmptied() {
        by("list: -1: it is empty then, 0");
        PayUntold x = staff(5, 6);
        due("empty as it is", x.list(-1), 0);
        x.list(4);
        x.list(4);
        due("two have more", x.looked(2), 2);
        due("emptied", x.list(-1), 0);
        due("listed", x.count(3), 0);
        due("none is looked at", x.looked(2), 0);
        due("none is another one", x.looked(0), -5);
        due("the first one", x.list(5), 1);
        due("no old one is looked at", x.looked(2), 0);
    }

    private static void lookedAsFarAsBothGo() {
        by("LOOKED at (as far as both go)");
        PayUntold x = staff(5);
        x.list(5);
        x.list(9);
        x.list(1);
        due("the list is longer: first", x.looked(0), -5);
        due("the list is longer: less", x.looked(1), 0);
        due("the list is longer: more", x.looked(2), 0);
        x.worker(9, 8, 0, 0);
        due("a second one: first", x.looked(0), 1);
        due("a second one: less", x.looked(1), 1);
        due("a second one: more", x.looked(2), 0);
        x.worker(8, 2, 0, 0);
        x.worker(7, 3, 0, 0);
        due("the list is shorter: first", x.looked(0), 1);
        due("the list is shorter: less", x.looked(1), 1);
        due("the list is shorter: more", x.looked(2), 1);
        PayUntold nobody = new PayUntold();
        nobody.list(7);
        for (int what = 1; what < 3; what++) {
            due("nobody is there", nobody.looked(what), 0);
            due("nothing is told", staff(7).looked(what), 0);
        }
        due("nobody is there", nobody.looked(0), -5);
        due("nothing is told", staff(7).looked(0), -5);
    }

    private static void lookedForTheFirst() {
        by("LOOKED at: the first one whose PAY is another one (-5: none)");
        for (int other = 0; other < 10; other++) {
            PayUntold x = staff(new int[10]);
            for (int w = 0; w < 10; w++) {
                x.list(w < other ? 0 : w == other ? 1 : 5);
            }
            due("the first is " + other, x.looked(0), other);
            for (int w = other; w < 10; w++) {
                x.set(w, 0, w == other ? 1 : 5);
            }
            due("none", x.looked(0), -5);
        }
        PayUntold more = staff(0, 1);
        more.list(0);
        more.list(0);
        due("one that has more", more.looked(0), 1);
    }

    private static void lookedForLessAndMore() {
        by("LOOKED at: how many of those told have less now, how many more");
        PayUntold x = staff(4, 5, 6);
        x.list(5);
        x.list(5);
        x.list(5);
        due("one less", x.looked(1), 1);
        due("one more", x.looked(2), 1);
        due("the first", x.looked(0), 0);
        x.set(1, 0, 4);
        due("two less", x.looked(1), 2);
        x.set(1, 0, 6);
        due("two more", x.looked(2), 2);
        due("one less", x.looked(1), 1);
        x.set(0, 0, 0);
        x.set(2, 0, 999);
        due("far less", x.looked(1), 1);
        due("far more", x.looked(2), 2);
    }

    private static void lookedAtItsEdges() {
        by("looked: what 0, 1, 2. NONE");
        PayUntold x = staff(4);
        x.list(5);
        due("-1", x.looked(-1), PayUntold.NONE);
        due("3", x.looked(3), PayUntold.NONE);
        due("nobody, 3", new PayUntold().looked(3), PayUntold.NONE);
        due("nobody, -1", new PayUntold().looked(-1), PayUntold.NONE);
    }
}
