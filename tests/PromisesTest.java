/** Each promise by hand: ordinary calls, the edges that the document names, and wrong ones. */
public final class PromisesTest extends Checks {
    public static void main(String[] args) {
        newObject();
        feed();
        houseNumbers();
        houseFaults();
        houseMeanings();
        told();
        worker();
        knowing();
        friend();
        beliefs();
        tellings();
        ofWorker();
        set();
        telling();
        year();
        yearGuards();
        years();
        best();
        even();
        spread();
        bargain();
        dieAndSlip();
        known();
        adverts();
        span();
        can();
        list();
        looked();
        acts();
        trace();
        as();
        imageAndUndo();
        count();
        exampleOfReadme();
        end();
    }

    private static void newObject() {
        by("promise 1");
        PayUntold x = new PayUntold();
        for (int what = 0; what < 6; what++) {
            due("count(" + what + ")", x.count(what), 0);
        }
        due("told(0)", x.told(0), 20);
        due("told(1)", x.told(1), 5);
        due("told(2)", x.told(2), 0);
        due("told(3)", x.told(3), 0);
        due("of(0, 0)", x.of(0, 0), -10001);
        due("undo()", x.undo(), PayUntold.STATE);
        due("trace(0)", x.trace(0), PayUntold.NONE);
        due("known(0)", x.known(0), 0);
        due("slip(-1)", x.slip(-1), 0);
    }

    private static void feed() {
        by("promise 2");
        PayUntold x = new PayUntold();
        due("feed(-1)", x.feed(-1), PayUntold.BAD);
        due("feed(128)", x.feed(128), PayUntold.BAD);
        due("feed(0)", x.feed(0), 1);
        due("feed(127)", x.feed(127), 2);
        for (int i = 3; i <= 100; i++) {
            due("feed", x.feed('o'), i);
        }
        due("the 101st", x.feed('o'), PayUntold.FULL);
        due("the 101st, wrong too", x.feed(200), PayUntold.BAD);
        due("count(4)", x.count(4), 100);
        due("house()", x.house(), -10);
        due("feed again", x.feed('o'), 1);
    }

    private static void houseNumbers() {
        by("promise 3");
        PayUntold x = new PayUntold();
        due("1st", build(x, "leave 1"), 0);
        due("2nd", build(x, "leave 2"), 1);
        due("fault", build(x, "leave x"), -16);
        due("told(0) behind a fault", x.told(0), 2);
        due("tape behind a fault", x.count(4), 0);
        due("3rd", build(x, "rise 3"), 2);
        due("leave is of the newest alone", x.told(0), 20);
        due("4th", build(x, "leave 4;leave 9"), 3);
        due("the last leave", x.told(0), 9);
        due("5th", build(x, "rise 8;rise 0"), 4);
        due("the last rise", x.told(1), 0);
        write(x, "lea");
        due("6th", x.house(), PayUntold.FULL);
        due("tape stays", x.count(4), 3);
        due("houses", x.count(1), 5);
    }

    private static void houseFaults() {
        by("promise 3");
        fault("", 0);
        fault(";", 0);
        fault("offr 1 w=1", 3);
        fault("offer", 5);
        fault("offer1 w=1", 5);
        fault("offer  1 w=1", 6);
        fault("offer 1", 7);
        fault("offer 1;", 7);
        fault("offer 1 ", 8);
        fault("offer 1 ;", 8);
        fault("offer 12w=1", 8);
        fault("offer 123 w=1", 8);
        fault("cut 00 w=1", 5);
        fault("cut 1 w", 7);
        fault("cut 1 w1", 7);
        fault("cut 1 w=", 8);
        fault("cut 1 w=a", 8);
        fault("cut 1 w=01", 9);
        fault("cut 1 w=123", 10);
        fault("cut 1 w=1 ", 9);
        fault("cut 1 w=1)", 9);
        fault("cut 1 (w=1", 10);
        fault("cut 1 (w=1;", 10);
        fault("cut 1 ()", 7);
        fault("cut 1 w=1&", 10);
        fault("cut 1 w=1&&k=1", 10);
        fault("cut 1 w=1||k=1", 10);
        fault("cut 1 !", 7);
        fault("cut 1 !!!!!!w=1", 11);
        fault("cut 1 !(!(!(w=1", 11);
        fault("cut 1 (((((w=1)))))|((((((", 25);
        fault("leave 5 ", 7);
        fault("leave 5;", 8);
        fault("leave 5;;", 8);
        fault("leave 5leave 5", 7);
        fault("leave 100", 8);
        fault("rise -1", 5);
        fault("Leave 5", 0);
        fault("rise 1;rise 1;rise 1;rise 1;rise 1;rise 1;rise 1;rise 1;rise 1;rise 1;", 69);
        house("rise 1;rise 1;rise 1;rise 1;rise 1;rise 1;rise 1;rise 1;rise 1;rise 1", 0);
        house("cut 1 !!!!!w=1", 0);
        house("cut 1 !(!(!w=1))&!!!!!k<99|(((((p>0)))))", 0);
        house("offer 99 w=1;cut 10 k<2;ask 0 l>0;leave 99;rise 0", 0);
        String long94 = "ask 1 w=1&w=1&w=1&w=1&w=1&w=1&w=1&w=1&w=1&w=1&w=1&w=1&w=1&w=1&w=1&w=1&w=1&w=1&w=1&w=1&w=1&w=1&";
        house(long94 + "!!w=10", 0);
        fault(long94 + "!!!w==", 99);
        fault(long94 + "(w=10&", 100);
    }

    private static void wish(String condition, String who) {
        PayUntold x = staff(100, 250, 305, 99, 0);
        x.worker(9, 999, 9, 1);
        x.knowing(1, 4, 0);
        x.knowing(2, 6, 0);
        build(x, "ask 7 " + condition);
        StringBuilder asked = new StringBuilder();
        for (int w = 0; w < 6; w++) {
            asked.append(x.of(w, 10) == 7 ? '1' : x.of(w, 10) == 0 ? '0' : '?');
        }
        due("who asks by " + condition + " (" + asked + ")", asked.toString().equals(who) ? 1 : 0, 1);
    }

    private static void houseMeanings() {
        by("promise 3");
        wish("w=1", "010000");
        wish("w<2", "110000");
        wish("w>3", "000011");
        wish("k=4", "010000");
        wish("k>0", "011000");
        wish("l=0", "101010");
        wish("p=30", "001000");
        wish("p=9", "000100");
        wish("p=99", "000001");
        wish("p<1", "000010");
        wish("u=0", "000011");
        wish("u=10", "100000");
        wish("y=0", "111111");
        wish("y>0", "000000");
        wish("!w=1", "101111");
        wish("!!w=1", "010000");
        wish("w=1|w=2", "011000");
        wish("w>0&w<3", "011000");
        wish("w=0|w>0&w<3", "111000");
        wish("w>0&w<3|w=0", "111000");
        wish("(w=0|w>0)&w<3", "111000");
        wish("w<3&(w=0|w=2)", "101000");
        wish("w=5&(w=0|w=2)", "000000");
        wish("!w=0&w<3", "011000");
        wish("!(w=0&w<3)", "011111");
        wish("!w=0|w<3", "111111");
        wish("!(w=0|w<3)", "000111");
        wish("w=1|w=2|w=3&l=0", "011000");
        wish("w<1&l=0|(w=3|w=4&!(p=0|k=3))", "100100");
        PayUntold x = staff(100, 200);
        build(x, "ask 7 w=0;ask 90 w<2;ask 99 w=1;ask 1 w=5;cut 5 w=1;offer 9 w=1;cut 6 l=1");
        due("wish 0", x.of(0, 10), 97);
        due("wish 1", x.of(1, 10), 189);
        due("offer 0", x.of(0, 9), 100);
        due("offer 1", x.of(1, 9), 198);
        build(x, "offer 99 w=0;offer 99 w=1;cut 99 w=1;cut 99 u=20;cut 99 p=20;offer 1 w=1");
        due("offer 0", x.of(0, 9), 199);
        due("offer below 0 only till all are together", x.of(1, 9), 3);
        x.set(1, 1, 2);
        due("offer of another worth", x.of(1, 9), 0);
        x.set(0, 1, 950);
        due("offer above 999", x.of(0, 9), 999);
        build(x, "ask 1 w=0;ask 2 w=1;ask 1 w=0;ask 1 w=0;ask 1 w=0;ask 1 w=0;ask 1 w=0;ask 1 w=0;ask 1 w=0;ask 1 l=0");
        due("wish by ten clauses", x.of(0, 10), 9);
        due("wish by ten clauses", x.of(1, 10), 2);
        build(x, "cut 9 w=5");
        due("offer of the newest house", x.of(1, 9), 2);
    }

    private static void told() {
        by("promise 4");
        PayUntold x = staff(100, 50, 201, 60);
        build(x, "leave 30;rise 9;leave 12");
        x.telling(2);
        due("told(0)", x.told(0), 12);
        due("told(1)", x.told(1), 9);
        due("told(2)", x.told(2), 2);
        due("told(3)", x.told(3), 0);
        due("told(4)", x.told(4), 150 - 55);
        due("told(5)", x.told(5), 411);
        due("told(6)", x.told(6), -10001);
        due("told(-1)", x.told(-1), -10001);
        x.set(1, 0, 400);
        due("told(4) below 0", x.told(4), 150 - 230);
        x.year();
        due("told(3) later", x.told(3), 1);
        due("one lot", staff(70).told(4), 0);
    }

    private static void worker() {
        by("promise 5");
        PayUntold x = new PayUntold();
        due("worker", x.worker(9, 0, 999, 1), 0);
        due("of desk", x.of(0, 0), 9);
        due("of pay", x.of(0, 1), 0);
        due("of worth", x.of(0, 2), 999);
        due("of lot", x.of(0, 3), 1);
        due("of friend", x.of(0, 4), -5);
        due("of kind", x.of(0, 5), 0);
        due("of v", x.of(0, 6), 0);
        due("worker", x.worker(0, 999, 0, 0), 1);
        due("desk 10", x.worker(10, 1, 1, 0), PayUntold.NONE);
        due("desk -1", x.worker(-1, 1, 1, 0), PayUntold.NONE);
        due("lot 2", x.worker(1, 1, 1, 2), PayUntold.NONE);
        due("lot -1", x.worker(1, 1, 1, -1), PayUntold.NONE);
        due("lot and pay", x.worker(1, -1, 1, 2), PayUntold.NONE);
        due("pay 1000", x.worker(1, 1000, 1, 0), PayUntold.BAD);
        due("pay -1", x.worker(1, -1, 1, 0), PayUntold.BAD);
        due("worth 1000", x.worker(1, 1, 1000, 0), PayUntold.BAD);
        due("worth -1 at a desk that is had", x.worker(9, 1, -1, 0), PayUntold.BAD);
        due("desk that is had", x.worker(9, 1, 1, 0), PayUntold.STATE);
        due("count", x.count(0), 2);
        for (int d = 1; d < 9; d++) {
            due("worker", x.worker(d, d, d, 0), d + 1);
        }
        due("all desks are had", x.worker(3, 1, 1, 0), PayUntold.STATE);
        due("count", x.count(0), 10);
    }

    private static void knowing() {
        by("promise 6");
        PayUntold x = staff(1, 2);
        for (int kind = 0; kind < 7; kind++) {
            due("knowing", x.knowing(1, kind, 9 - kind), Math.max(0, kind - 1));
            due("kind", x.of(1, 5), kind);
            due("v", x.of(1, 6), 9 - kind);
        }
        due("kind of the other one", x.of(0, 5), 0);
        due("worker 2", x.knowing(2, 0, 0), PayUntold.NONE);
        due("worker -1", x.knowing(-1, 0, 0), PayUntold.NONE);
        due("kind 7", x.knowing(0, 7, 10), PayUntold.NONE);
        due("kind -1", x.knowing(0, -1, 0), PayUntold.NONE);
        due("v 10", x.knowing(0, 1, 10), PayUntold.BAD);
        due("v -1", x.knowing(0, 1, -1), PayUntold.BAD);
        due("unchanged", x.knowing(0, 0, 0), 0);
    }

    private static void friend() {
        by("promise 7");
        PayUntold x = staff(1, 2, 3);
        due("friend", x.friend(0, 1), -5);
        due("friend", x.friend(0, 2), 1);
        due("friend", x.friend(0, -1), 2);
        due("friend", x.friend(0, -1), -5);
        due("friend", x.friend(0, 2), -5);
        due("ties go one way", x.of(2, 4), -5);
        due("itself", x.friend(1, 1), PayUntold.BAD);
        due("itself, not there", x.friend(3, 3), PayUntold.NONE);
        due("other 3", x.friend(1, 3), PayUntold.NONE);
        due("other -2", x.friend(1, -2), PayUntold.NONE);
        due("worker -1", x.friend(-1, -1), PayUntold.NONE);
        due("unchanged", x.of(0, 4), 2);
    }

    private static void belief(PayUntold x, int w, int kind, int v, int want) {
        x.knowing(w, kind, v);
        due("belief of " + w + " as " + kind, x.of(w, 7), want);
    }

    private static void beliefs() {
        by("promise 8, BELIEF");
        PayUntold x = new PayUntold();
        x.worker(5, 100, 0, 0);
        x.worker(9, 301, 0, 0);
        x.worker(1, 50, 0, 0);
        x.worker(7, 202, 0, 0);
        x.worker(0, 7, 0, 0);
        belief(x, 0, 0, 9, 100);
        belief(x, 0, 1, 9, (50 + 100 + 202) / 3);
        belief(x, 1, 1, 9, (301 + 202) / 2);
        belief(x, 4, 1, 9, (7 + 50) / 2);
        belief(x, 0, 2, 9, 660 / 5);
        belief(x, 0, 3, 9, 109);
        belief(x, 0, 4, 9, 352 / 3);
        belief(x, 0, 5, 9, 308 / 2);
        belief(x, 0, 6, 9, 199);
        x.friend(0, 2);
        belief(x, 0, 4, 9, 352 / 3);
        x.friend(0, 3);
        belief(x, 0, 4, 9, 352 / 3);
        x.friend(0, 1);
        belief(x, 0, 4, 9, 653 / 4);
        belief(x, 0, 1, 9, 352 / 3);
        x.friend(4, 1);
        belief(x, 4, 4, 0, (7 + 50 + 301) / 3);
        PayUntold row = new PayUntold();
        for (int d = 9; d >= 0; d--) {
            row.worker(d, 9 - d, 0, 0);
            row.knowing(9 - d, 4, 0);
        }
        row.set(4, 0, 904);
        row.friend(0, 4);
        row.friend(9, 4);
        due("belief at desk 9", row.of(0, 7), (0 + 1 + 904) / 3);
        due("belief at desk 8", row.of(1, 7), 1);
        due("belief at desk 6", row.of(3, 7), (2 + 3 + 904) / 3);
        due("belief at desk 5", row.of(4, 7), (3 + 904 + 5) / 3);
        due("belief at desk 0", row.of(9, 7), (9 + 8 + 904) / 3);
        PayUntold alone = staff(88);
        for (int kind = 0; kind < 7; kind++) {
            belief(alone, 0, kind, 0, 88);
        }
    }

    private static void tellings() {
        by("promise 8, TELLING");
        PayUntold x = staff(10, 21, 50, 200, 400);
        int middle = 205;
        int mean = 681 / 5;
        int[][] wanted = {{10, 15, mean, 13, 15, middle, 43},
            {middle, middle, mean, middle, middle, middle, middle},
            {mean, mean, mean, mean, mean, mean, mean}, {mean, mean, mean, mean, mean, mean, mean}};
        for (int t = 0; t < 4; t++) {
            x.telling(t);
            for (int kind = 0; kind < 7; kind++) {
                x.knowing(0, kind, 3);
                due("belief by telling " + t + " as " + kind, x.of(0, 7), wanted[t][kind]);
                int glad = 10 - wanted[t][kind];
                due("glad by telling " + t + " as " + kind, x.of(0, 8), t == 3 ? 2 * glad : glad);
            }
            x.knowing(4, 2, 0);
            due("above 0, it is never twice", x.of(4, 8), 400 - mean);
        }
    }

    private static void ofWorker() {
        by("promise 8");
        PayUntold x = staff(100, 200, 300);
        due("of(3, 0)", x.of(3, 0), -10001);
        due("of(-1, 0)", x.of(-1, 0), -10001);
        due("of(0, 12)", x.of(0, 12), -10001);
        due("of(0, -1)", x.of(0, -1), -10001);
        x.friend(0, 2);
        due("of(0, 4)", x.of(0, 4), 2);
        due("glad with its own", x.of(0, 11), 0);
        x.knowing(0, 2, 0);
        due("below the mean: asks, as it has no offer", x.of(0, 11), 1);
        x.set(0, 1, 101);
        due("leaves", x.of(0, 11), 2);
        x.set(0, 0, 180);
        x.set(0, 1, 999);
        x.set(2, 0, 220);
        due("glad -20 and leave 20 are not below 0", x.of(0, 8), -20);
        due("asks", x.of(0, 11), 1);
        build(x, "leave 19");
        due("leaves by leave 19", x.of(0, 11), 2);
        build(x, "leave 19;ask 1 w>0;ask 0 w=0");
        due("asks by a wish", x.of(2, 11), 1);
        x.knowing(2, 2, 0);
        due("glad above 0", x.of(2, 8), 20);
        build(x, "ask 0 w=2");
        due("a wish of 0", x.of(2, 11), 0);
    }

    private static void set() {
        by("promise 9");
        PayUntold x = staff(5, 6);
        due("pay", x.set(1, 0, 999), 6);
        due("pay", x.set(1, 0, 0), 999);
        due("worth", x.set(1, 1, 7), 6);
        due("worth", x.of(1, 2), 7);
        due("pay", x.of(1, 1), 0);
        due("other", x.of(0, 1), 5);
        due("worker 2", x.set(2, 0, 1), PayUntold.NONE);
        due("what 2", x.set(0, 2, 1000), PayUntold.NONE);
        due("what -1", x.set(0, -1, 1), PayUntold.NONE);
        due("n 1000", x.set(0, 0, 1000), PayUntold.BAD);
        due("n -1", x.set(0, 1, -1), PayUntold.BAD);
        due("unchanged", x.of(0, 1), 5);
    }

    private static void telling() {
        by("promise 10");
        PayUntold x = new PayUntold();
        due("telling", x.telling(3), 0);
        due("telling", x.telling(1), 3);
        due("telling 4", x.telling(4), PayUntold.NONE);
        due("telling -1", x.telling(-1), PayUntold.NONE);
        due("told(2)", x.told(2), 1);
    }

    private static void year() {
        by("promise 11");
        PayUntold x = new PayUntold();
        x.worker(0, 100, 103, 0);
        x.worker(1, 100, 90, 0);
        x.worker(2, 996, 0, 1);
        x.worker(3, 200, 280, 1);
        x.worker(4, 100, 300, 1);
        x.friend(3, 0);
        x.friend(0, 3);
        x.friend(1, 4);
        build(x, "rise 4;ask 3 w<3;ask 90 y=1&w=4");
        x.knowing(3, 2, 0);
        x.knowing(4, 2, 0);
        due("year()", x.year(), 2);
        due("asks, up to its offer", x.of(0, 1), 103);
        due("asks, above its offer already", x.of(1, 1), 107);
        due("asks, 999 at most", x.of(2, 1), 999);
        due("leaves, by how the year began", x.of(3, 1), 280);
        due("leaves", x.of(4, 1), 300);
        due("has no friend", x.of(3, 4), -5);
        due("keeps its friend", x.of(0, 4), 3);
        due("keeps its friend that left", x.of(1, 4), 4);
        due("the year", x.told(3), 1);
        due("nobody leaves", x.year(), 0);
        due("asks by y=1, above its offer", x.of(4, 1), 394);
    }

    private static void yearGuards() {
        by("promise 11");
        PayUntold x = staff(100, 130);
        x.knowing(0, 2, 0);
        x.set(0, 1, 500);
        build(x, "leave 20;rise 1;ask 1 y=9");
        for (int i = 0; i < 99; i++) {
            due("year()", x.year(), 0);
        }
        due("year 100", x.year(), PayUntold.STATE);
        due("told(3)", x.told(3), 99);
        int pay = x.of(0, 1);
        due("pay by 9 wishes, one below the other one's", pay, 130 + 9 * 2 - 1);
        due("years beyond", x.years(1, 0, 0), x.told(5) + 4);
        due("years 20 beyond", x.years(11, 0, 0), x.years(10, 0, 0) + 4);
        PayUntold nobody = new PayUntold();
        due("nobody", nobody.year(), 0);
    }

    private static void years() {
        by("promise 12");
        PayUntold x = staff(100, 200, 300, 40);
        x.set(0, 1, 999);
        x.set(3, 1, 190);
        x.friend(3, 1);
        due("years 0, pay", x.years(0, 3, 0), 640);
        due("years 0, left", x.years(0, 3, 1), 0);
        due("years 0, gap", x.years(0, 3, 2), 80);
        due("by telling 0 nothing moves", x.years(20, 0, 0), 640);
        due("by telling 2, pay", x.years(1, 2, 0), 999 + 200 + 300 + 190);
        due("by telling 2, left", x.years(1, 2, 1), 2);
        due("by telling 2, gap", x.years(1, 2, 2), (999 + 300) / 2 - 195);
        due("and then the mean is 422", x.years(2, 2, 0), 999 + 205 + 305 + 195);
        due("and none has a better offer", x.years(2, 2, 1), 2);
        due("unchanged pay", x.told(5), 640);
        due("unchanged telling", x.told(2), 0);
        due("unchanged year", x.told(3), 0);
        due("unchanged friend", x.of(3, 4), 1);
        due("telling 4", x.years(21, 4, 0), -10001);
        due("telling -1", x.years(1, -1, 0), -10001);
        due("what 3", x.years(-1, 0, 3), -10001);
        due("what -1", x.years(1, 0, -1), -10001);
        due("n 21", x.years(21, 0, 0), -10002);
        due("n -1", x.years(-1, 0, 0), -10002);
        x.telling(2);
        x.year();
        due("as the years told", x.told(5), 1689);
        PayUntold full = new PayUntold();
        for (int d = 9; d >= 0; d--) {
            full.worker(d, 100 * (9 - d), 0, 0);
            full.knowing(9 - d, 1, 0);
        }
        due("of ten that guess, the one with 0 asks", full.years(1, 0, 0), 4505);
        due("and then the one beside it too", full.years(2, 0, 0), 4515);
        due("year()", full.year(), 0);
        due("and so it was", full.told(5), 4505);
    }

    private static void best() {
        by("promise 13");
        PayUntold x = staff(100, 200, 300, 40);
        due("best(0): all alike", x.best(0), 0);
        x.set(1, 1, 350);
        x.set(3, 1, 240);
        int least = 9999;
        int want = -1;
        for (int t = 0; t < 4; t++) {
            int gap = Math.abs(x.years(1, t, 2));
            if (gap < least) {
                least = gap;
                want = t;
            }
        }
        due("by hand: 0 leaves 80; 1, 2 let 3 leave alone", x.years(1, 1, 2), 202 - 220);
        due("best(1)", x.best(1), want);
        due("best(1)", x.best(1), 1);
        due("n 21", x.best(21), PayUntold.BAD);
        due("n -1", x.best(-1), PayUntold.BAD);
        due("n 20", x.best(20) >= 0 ? 1 : 0, 1);
        due("unchanged", x.told(5), 640);
        PayUntold y = staff(100, 150);
        y.set(0, 1, 150);
        due("telling 3 alone lets it leave: years(1, 2, 2)", y.years(1, 2, 2), 150 - 150);
        y.set(0, 0, 115);
        due("by 2 it asks", y.years(1, 2, 2), 120 - 150);
        due("by 3 it leaves", y.years(1, 3, 2), 0);
        due("best(1)", y.best(1), 3);
    }

    private static void even() {
        by("promise 14");
        PayUntold x = staff(100, 50, 201, 60, 0);
        due("gap", x.told(4), 100 - 55);
        due("even(0)", x.even(0), 90);
        due("even(44)", x.even(44), 2);
        due("even(45)", x.even(45), 0);
        due("even(99)", x.even(99), 0);
        due("even(100)", x.even(100), PayUntold.BAD);
        due("even(-1)", x.even(-1), PayUntold.BAD);
        x.set(1, 0, 301);
        due("gap", x.told(4), 100 - 180);
        due("even(0), the other lot", x.even(0), 540 - 301);
        due("even(79)", x.even(79), 303 - 301);
        due("one lot", staff(70).even(0), 0);
        due("nobody", new PayUntold().even(0), 0);
    }

    private static void spread() {
        by("promise 15");
        PayUntold x = staff(100, 150, 10);
        x.set(2, 1, 199);
        x.set(1, 1, 1);
        due("itself", x.spread(0, 98), 0);
        due("99 more or less", x.spread(0, 99), 140);
        due("one side", x.spread(1, 99), 50);
        due("n 100", x.spread(0, 100), PayUntold.BAD);
        due("n -1", x.spread(0, -1), PayUntold.BAD);
        due("worker 3", x.spread(3, 100), PayUntold.NONE);
        due("worker -1", x.spread(-1, 0), PayUntold.NONE);
        x.set(1, 1, 100);
        due("n 0", x.spread(0, 0), 50);
    }

    private static void bargain() {
        by("promise 16");
        PayUntold x = staff(100, 131);
        x.knowing(0, 2, 3);
        due("belief", x.of(0, 7), 115);
        due("first 0: 105 and 115", x.bargain(0, 0, 999), -5);
        build(x, "rise 14");
        due("first 0: 114 and 115", x.bargain(0, 0, 999), -5);
        build(x, "rise 15");
        due("first 0: 115", x.bargain(0, 0, 999), 115);
        due("first 0: b 115", x.bargain(0, 0, 115), 115);
        due("first 0: b 114", x.bargain(0, 0, 114), -5);
        build(x, "rise 20;ask 11 w=0");
        due("first 0: 120 and 126", x.bargain(0, 0, 999), 123);
        due("first 0: 120 and 126, b 122", x.bargain(0, 0, 122), -5);
        due("first 0: 119 and 126, b 119", x.bargain(0, 0, 119), -5);
        due("first 1: 115 and 11 and 30", x.bargain(0, 1, 999), 156);
        due("first 1: 156 and b 156", x.bargain(0, 1, 156), 156);
        due("first 1: 156 and b 155", x.bargain(0, 1, 155), 155);
        due("first 1: 156 and b 154", x.bargain(0, 1, 154), -5);
        due("first 2: 120 and 156", x.bargain(0, 2, 999), 138);
        due("first 2: b 138", x.bargain(0, 2, 138), 138);
        due("first 2: b 137", x.bargain(0, 2, 137), -5);
        due("b 0", x.bargain(0, 0, 0), -5);
        x.set(0, 0, 0);
        x.knowing(0, 0, 0);
        build(x, "rise 0");
        due("all 0", x.bargain(0, 1, 0), 0);
        due("first 3", x.bargain(0, 3, 1000), PayUntold.NONE);
        due("first -1", x.bargain(0, -1, 1), PayUntold.NONE);
        due("worker 2", x.bargain(2, 0, 1), PayUntold.NONE);
        due("worker -1", x.bargain(-1, 0, 1), PayUntold.NONE);
        due("b 1000", x.bargain(0, 0, 1000), PayUntold.BAD);
        due("b -1", x.bargain(0, 0, -1), PayUntold.BAD);
    }

    private static void dieAndSlip() {
        by("promise 17");
        PayUntold x = new PayUntold();
        due("die", x.die(9999), 0);
        due("die", x.die(0), 9999);
        due("die 10000", x.die(10000), PayUntold.BAD);
        due("die -1", x.die(-1), PayUntold.BAD);
        due("die", x.die(9900), 0);
        by("promise 18");
        due("slip(-1) of nobody", x.slip(-1), 0);
        due("slip(0) of nobody", x.slip(0), PayUntold.NONE);
        x.worker(8, 70, 0, 0);
        x.worker(2, 40, 0, 0);
        x.worker(5, 50, 0, 0);
        due("slip(0)", x.slip(0), 9940);
        due("slip(1)", x.slip(1), 9990);
        due("slip(2)", x.slip(2), 60);
        due("slip(-1)", x.slip(-1), 160);
        due("slip(3)", x.slip(3), PayUntold.NONE);
        due("slip(-2)", x.slip(-2), PayUntold.NONE);
        due("die is as it was", x.die(1), 9900);
        due("slip(2)", x.slip(2), 161);
    }

    private static void known() {
        by("promise 19");
        PayUntold x = new PayUntold();
        int[] desks = {4, 0, 9, 6, 2};
        for (int w = 0; w < 5; w++) {
            x.worker(desks[w], w, w, 0);
        }
        due("nobody tells", x.known(0), 0);
        due("in the row 1 4 0 3 2: 1 and 0 see 4", x.known(0b00011), 0b10000);
        due("4 and 3 see 0", x.known(0b11000), 0b00001);
        due("2 and 4 see 1, round", x.known(0b10100), 0b00010);
        due("1 and 3 see 2, round", x.known(0b01010), 0b00100);
        due("neighbours see nobody", x.known(0b10010), 0);
        due("1 0 2", x.known(0b00111), 0b11000);
        due("all but one", x.known(0b11101), 0b00010);
        due("all", x.known(0b11111), 0);
        due("a bit too many", x.known(0b100000), PayUntold.BAD);
        due("-1", x.known(-1), PayUntold.BAD);
        due("the least int", x.known(Integer.MIN_VALUE), PayUntold.BAD);
        PayUntold one = staff(7);
        due("one by itself", one.known(0), 1);
        due("one", one.known(1), 0);
        PayUntold two = staff(7, 8);
        due("two, none tells", two.known(0), 0);
        due("two, one tells", two.known(1), 2);
        due("nobody", new PayUntold().known(1), PayUntold.BAD);
    }

    private static void adverts() {
        by("promise 20");
        PayUntold x = staff(7, 8);
        due("advert", x.advert(0, 0, 999), 1);
        due("advert", x.advert(1, 5, 5), 2);
        due("worker 2", x.advert(2, 5, 4), PayUntold.NONE);
        due("worker -1", x.advert(-1, 5, 5), PayUntold.NONE);
        due("least above greatest", x.advert(1, 5, 4), PayUntold.BAD);
        due("least -1", x.advert(1, -1, 4), PayUntold.BAD);
        due("greatest 1000", x.advert(1, 0, 1000), PayUntold.BAD);
        for (int i = 3; i <= 12; i++) {
            due("advert", x.advert(0, 0, 900), i);
        }
        due("13th", x.advert(0, 0, 900), PayUntold.FULL);
        due("13th, wrong too", x.advert(0, 2, 1), PayUntold.BAD);
        due("count", x.count(2), 12);
        by("promise 21");
        due("clear()", x.clear(), 12);
        due("clear()", x.clear(), 0);
        due("count", x.count(2), 0);
        due("span", x.span(1, 0), 0);
        due("advert", x.advert(0, 1, 2), 1);
    }

    private static void span() {
        by("promise 22");
        PayUntold x = staff(7, 8);
        due("without", x.span(0, 0), 0);
        due("without", x.span(0, 1), 999);
        x.advert(0, 100, 300);
        x.advert(1, 400, 500);
        x.advert(0, 50, 200);
        due("least", x.span(0, 0), 100);
        due("greatest", x.span(0, 1), 200);
        due("of the other one", x.span(1, 0), 400);
        x.advert(0, 200, 900);
        due("one number", x.span(0, 0), 200);
        due("one number", x.span(0, 1), 200);
        x.advert(0, 201, 900);
        due("none goes", x.span(0, 0), -5);
        due("none goes", x.span(0, 1), -5);
        due("what 2", x.span(0, 2), PayUntold.NONE);
        due("what -1", x.span(0, -1), PayUntold.NONE);
        due("worker 2", x.span(2, 0), PayUntold.NONE);
        due("worker -1", x.span(-1, 0), PayUntold.NONE);
    }

    private static void can() {
        by("promise 23");
        PayUntold x = staff(7, 8, 9);
        due("without rows", x.can(0), 0);
        due("without rows", x.can(1), 999);
        x.advert(0, 100, 300);
        x.advert(2, 400, 501);
        due("least", x.can(0), 500 / 3);
        due("greatest", x.can(1), 1800 / 3);
        x.advert(2, 502, 502);
        due("one has none", x.can(0), -5);
        due("one has none", x.can(1), -5);
        due("what 2", x.can(2), PayUntold.NONE);
        due("what -1", x.can(-1), PayUntold.NONE);
        due("nobody", new PayUntold().can(1), 0);
    }

    private static void list() {
        by("promise 24");
        PayUntold x = new PayUntold();
        due("-1", x.list(-1), 0);
        due("-2", x.list(-2), PayUntold.BAD);
        due("1000", x.list(1000), PayUntold.BAD);
        for (int i = 1; i <= 10; i++) {
            due("list", x.list(i == 1 ? 0 : 999), i);
        }
        due("11th", x.list(5), PayUntold.FULL);
        due("11th, wrong too", x.list(1000), PayUntold.BAD);
        due("count", x.count(3), 10);
        due("-1", x.list(-1), 0);
        due("count", x.count(3), 0);
        due("list", x.list(5), 1);
    }

    private static void looked() {
        by("promise 25");
        PayUntold x = staff(10, 20, 30, 40);
        due("without a list", x.looked(0), -5);
        due("without a list", x.looked(1), 0);
        x.list(10);
        due("alike", x.looked(0), -5);
        x.list(21);
        x.list(29);
        due("the first one", x.looked(0), 1);
        due("less now", x.looked(1), 1);
        due("more now", x.looked(2), 1);
        x.set(1, 0, 22);
        due("none less", x.looked(1), 0);
        due("two more", x.looked(2), 2);
        due("what 3", x.looked(3), PayUntold.NONE);
        due("what -1", x.looked(-1), PayUntold.NONE);
        PayUntold shorter = staff(10);
        shorter.list(10);
        shorter.list(11);
        due("beyond the workers", shorter.looked(0), -5);
        due("beyond the workers", shorter.looked(1), 0);
        shorter.set(0, 0, 9);
        due("worker 0", shorter.looked(0), 0);
        due("worker 0", shorter.looked(1), 1);
        shorter.set(0, 0, 11);
        due("worker 0", shorter.looked(2), 1);
    }

    private static void act(PayUntold x, int w, int act, int at, int want, int... bodies) {
        due("act(" + w + ", " + act + ", " + at + ")", x.act(w, act, at), want);
        due("bodies of act(" + w + ", " + act + ")", x.count(5), bodies.length);
        for (int i = 0; i < bodies.length; i++) {
            due("trace(" + i + ") of act(" + w + ", " + act + ")", x.trace(i), bodies[i]);
        }
        due("trace behind the last", x.trace(bodies.length), PayUntold.NONE);
    }

    private static void acts() {
        by("promise 26");
        PayUntold x = staff(0, 0, 0, 0, 0, 0, 0);
        for (int w = 0; w < 7; w++) {
            x.knowing(w, w, w + 2);
        }
        act(x, 0, 0, 5, 5, 1);
        act(x, 0, 1, 5, 3, 2, 1);
        act(x, 0, 2, 5, 6, 3, 2, 1);
        act(x, 1, 0, 5, 16, 11, 1);
        act(x, 1, 1, 5, 13, 2, 11, 1);
        act(x, 1, 2, 5, 26, 3, 2, 11, 1);
        act(x, 2, 0, 5, 7, 1);
        act(x, 2, 1, 5, -3, 21, 2, 1);
        act(x, 2, 2, 5, -6, 3, 21, 2, 1);
        act(x, 3, 0, 5, 8, 1);
        act(x, 3, 1, 5, 3, 2, 1);
        act(x, 3, 2, 5, 6 ^ 7, 31, 3, 2, 1);
        act(x, 4, 0, 5, 19, 11, 1);
        act(x, 4, 1, 5, 13, 2, 11, 1);
        act(x, 4, 2, 5, 2 * (12 + 4 - 6) + 10, 41, 3, 2, 11, 1, 11, 1);
        act(x, 5, 0, 5, 10 ^ 5, 51, 1);
        act(x, 5, 1, 5, -((10 ^ 5) - 7), 21, 2, 51, 1);
        act(x, 5, 2, 5, -2 * ((10 ^ 5) - 7), 3, 21, 2, 51, 1);
        act(x, 6, 0, 5, 11, 1);
        act(x, 6, 1, 5, 11, 61, 2, 1);
        act(x, 6, 2, 5, 22 ^ 7, 31, 3, 61, 2, 1);
        act(x, 1, 0, Integer.MAX_VALUE, Integer.MAX_VALUE * 3 + 1, 11, 1);
        act(x, 4, 2, Integer.MIN_VALUE, 2 * ((Integer.MIN_VALUE - 1) * 3 + 4 - 6) + 10, 41, 3, 2, 11, 1, 11, 1);
        act(x, 7, 0, 5, 0);
        act(x, 0, 1, 5, 3, 2, 1);
        act(x, -1, 0, 5, 0);
        act(x, 0, 1, 5, 3, 2, 1);
        act(x, 0, 3, 5, 0);
        act(x, 0, 1, 5, 3, 2, 1);
        act(x, 0, -1, 5, 0);
    }

    private static void trace() {
        by("promise 27");
        PayUntold x = staff(0);
        x.act(0, 2, 1);
        due("trace(0)", x.trace(0), 3);
        due("trace(1)", x.trace(1), 2);
        due("trace(2)", x.trace(2), 1);
        due("trace(3)", x.trace(3), PayUntold.NONE);
        due("trace(-1)", x.trace(-1), PayUntold.NONE);
        due("trace(20)", x.trace(20), PayUntold.NONE);
        x.image();
        x.act(0, 0, 1);
        due("the latest alone", x.trace(1), PayUntold.NONE);
        x.undo();
        due("it is not in the image", x.trace(0), 1);
        due("it is not in the image", x.count(5), 1);
    }

    private static void as() {
        by("promise 28");
        PayUntold x = staff(0);
        int[] above = {0, 0, 0, 0, 1, 2, 3};
        for (int kind = 0; kind < 7; kind++) {
            x.knowing(0, kind, 9 - kind);
            for (int k = 0; k < 7; k++) {
                boolean is = k == 0 || k == kind || k == above[kind];
                due("as(" + kind + ", " + k + ")", x.as(0, k), is ? 9 - kind : -6);
            }
        }
        due("k 7", x.as(0, 7), PayUntold.NONE);
        due("k -1", x.as(0, -1), PayUntold.NONE);
        due("worker 1", x.as(1, 0), PayUntold.NONE);
        due("worker -1", x.as(-1, 0), PayUntold.NONE);
    }

    private static void imageAndUndo() {
        PayUntold x = staff(10, 20);
        build(x, "leave 3;ask 2 w=0");
        x.friend(0, 1);
        x.knowing(1, 5, 4);
        x.telling(2);
        x.die(77);
        x.advert(0, 3, 4);
        x.list(10);
        x.list(25);
        write(x, "rise ");
        by("promise 30");
        due("undo()", x.undo(), PayUntold.STATE);
        by("promise 29");
        due("image()", x.image(), 2);
        by("promise 30");
        for (int turn = 0; turn < 2; turn++) {
            changeAll(x);
            due("undo()", x.undo(), 2);
            due("workers", x.count(0), 2);
            due("houses", x.count(1), 1);
            due("adverts", x.count(2), 1);
            due("list", x.count(3), 2);
            due("signs", x.count(4), 5);
            due("leave", x.told(0), 3);
            due("rise", x.told(1), 5);
            due("telling", x.told(2), 2);
            due("year", x.told(3), 0);
            due("gap", x.told(4), -10);
            due("all pay", x.told(5), 30);
            due("worth", x.of(0, 2), 10);
            due("friend", x.of(0, 4), 1);
            due("kind", x.of(1, 5), 5);
            due("v", x.of(1, 6), 4);
            due("wish", x.of(0, 10), 2);
            due("span", x.span(0, 1), 4);
            due("looked", x.looked(0), 1);
            due("slip", x.slip(0), 87);
        }
        due("the tape as it was", x.feed('9'), 6);
        due("house()", x.house(), 1);
        due("rise", x.told(1), 9);
        due("a desk that is free again", x.worker(9, 1, 1, 1), 2);
        due("a worker as at first", x.of(2, 5), 0);
        due("image() anew", x.image(), 3);
        x.worker(8, 1, 1, 1);
        due("undo()", x.undo(), 3);
        due("rise", x.told(1), 9);
    }

    private static void changeAll(PayUntold x) {
        x.feed('1');
        x.house();
        build(x, "leave 90");
        x.worker(9, 500, 500, 0);
        x.knowing(2, 6, 9);
        x.friend(0, 2);
        x.knowing(1, 1, 1);
        x.telling(3);
        x.set(0, 0, 900);
        x.set(0, 1, 901);
        x.die(9);
        x.year();
        x.clear();
        x.advert(1, 900, 900);
        x.advert(0, 900, 900);
        x.list(-1);
        x.list(5);
        write(x, "zzzzzzz");
    }

    private static void count() {
        by("promise 31");
        PayUntold x = staff(1, 2, 3);
        build(x, "rise 1");
        write(x, "abcd");
        x.advert(0, 0, 0);
        x.advert(0, 0, 0);
        x.list(1);
        x.act(0, 1, 1);
        due("count(0)", x.count(0), 3);
        due("count(1)", x.count(1), 1);
        due("count(2)", x.count(2), 2);
        due("count(3)", x.count(3), 1);
        due("count(4)", x.count(4), 4);
        due("count(5)", x.count(5), 2);
        due("count(6)", x.count(6), PayUntold.NONE);
        due("count(-1)", x.count(-1), PayUntold.NONE);
    }

    private static void exampleOfReadme() {
        by("README.md, Use");
        PayUntold office = new PayUntold();
        due("house()", build(office, "leave 10;offer 40 l=1&!u<20;ask 3 p<15"), 0);
        due("worker(4, 120, 150, 0)", office.worker(4, 120, 150, 0), 0);
        due("worker(6, 150, 150, 1)", office.worker(6, 150, 150, 1), 1);
        due("knowing(0, 2, 0)", office.knowing(0, 2, 0), 0);
        due("of(0, 7)", office.of(0, 7), 135);
        due("of(0, 11)", office.of(0, 11), 2);
        due("years(1, 2, 0)", office.years(1, 2, 0), 300);
        due("year()", office.year(), 1);
        due("of(0, 1)", office.of(0, 1), 150);
    }
}
