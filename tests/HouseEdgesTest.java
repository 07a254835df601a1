import java.util.function.Supplier;

/** The edges of THE TAPE and the HOUSE: a test of each sentence that names one. */
public final class HouseEdgesTest extends Checks {
    /** Signs that stand nowhere in a HOUSE. */
    private static final String STRANGE = "\0\t\n.xzAW~\u007f";

    public static void main(String[] args) {
        tapeOfAHundred();
        signsOfTheTape();
        oneToTenClauses();
        wordsOfClauses();
        oneBlankAhead();
        numbersOfClauses();
        numbersOfTests();
        factsOfTests();
        comparisonsOfTests();
        partsOfConditions();
        fiveOpen();
        openTillItsEnd();
        faultWithinAText();
        faultAtTheSize();
        faultLeavesTheHouse();
        fiveHouses();
        newestHouseHolds();
        withoutAHouse();
        lastOfLeaveAndRise();
        conditionsHold();
        numberOfTheWorker();
        kindAndLot();
        tensOfPayAndWorth();
        yearModuloTen();
        offerIsBound();
        wishIsNotBound();
        end();
    }

    private static PayUntold full() {
        PayUntold x = new PayUntold();
        write(x, "o".repeat(100));
        return x;
    }

    private static void tapeOfAHundred() {
        by("THE TAPE (bytes, 100 at most)");
        PayUntold x = new PayUntold();
        for (int i = 1; i <= 100; i++) {
            due("sign " + i, x.feed('a' + i % 26), i);
        }
        due("sign 101", x.feed('a'), PayUntold.FULL);
        due("sign 101 again", x.feed(0), PayUntold.FULL);
        due("signs", x.count(4), 100);
        by("feed: BAD; FULL");
        due("-1 on a full tape", full().feed(-1), PayUntold.BAD);
        due("128 on a full tape", full().feed(128), PayUntold.BAD);
        due("127 on a full tape", full().feed(127), PayUntold.FULL);
        by("THE TAPE, which is empty then");
        due("house()", x.house(), -10);
        due("signs", x.count(4), 0);
        due("the first sign again", x.feed('r'), 1);
        write(x, "ise 7");
        due("nothing of the old text is left", x.house(), 0);
        due("rise", x.told(1), 7);
        due("signs behind a house", x.count(4), 0);
        due("an empty tape", x.house(), -10);
        String whole = "ask 9 w=0" + ";ask 9 w=0".repeat(8) + ";ask 10 w=0";
        due("a text of 100", whole.length(), 100);
        house(whole, 0);
        PayUntold one = staff(5);
        write(one, whole);
        due("sign 101", one.feed('1'), PayUntold.FULL);
        due("the text is as it was", one.house(), 0);
        due("all of it is read", one.of(0, 10), 91);
    }

    private static void signsOfTheTape() {
        by("a sign (0 .. 127)");
        int[] wrong = {-1, 128, 255, 256, 256 + 'r', -128, -256 + 'r', 65536 + 'r', Integer.MIN_VALUE, Integer.MAX_VALUE};
        PayUntold x = new PayUntold();
        for (int sign : wrong) {
            due("feed(" + sign + ")", x.feed(sign), PayUntold.BAD);
            due("signs behind feed(" + sign + ")", x.count(4), 0);
        }
        due("feed(0)", x.feed(0), 1);
        due("feed(127)", x.feed(127), 2);
        due("feed(1)", x.feed(1), 3);
        due("feed(126)", x.feed(126), 4);
        due("house()", x.house(), -10);
        due("feed(-1)", x.feed(-1), PayUntold.BAD);
        write(x, "rise ");
        due("feed(128)", x.feed(128), PayUntold.BAD);
        write(x, "8");
        due("what is refused is not on the tape", x.house(), 0);
        due("rise", x.told(1), 8);
    }

    private static void oneToTenClauses() {
        by("CLAUSES, 1 to 10, with ; between");
        fault("", 0);
        fault(";", 0);
        fault(";rise 1", 0);
        fault("rise 1;;rise 1", 7);
        fault("rise 1;", 7);
        fault("rise 1,rise 1", 6);
        fault("rise 1:rise 1", 6);
        fault("rise 1rise 1", 6);
        String clause = "rise 1";
        for (int many = 1; many <= 9; many++) {
            house(clause + ";rise 1".repeat(many - 1), 0);
            fault(clause + ";rise 1".repeat(many - 1) + ";", 7 * many);
        }
        String ten = clause + ";rise 1".repeat(9);
        house(ten, 0);
        fault(ten + ";", 69);
        fault(ten + ";rise 1", 69);
        fault(ten + ";;", 69);
        fault(ten + "x", 69);
        String tenAsks = "ask 1 l=0" + ";ask 1 l=0".repeat(9);
        due("a text of ten asks", tenAsks.length(), 99);
        house(tenAsks, 0);
        fault(tenAsks + ";", 99);
        PayUntold x = staff(5);
        build(x, tenAsks);
        due("all ten hold", x.of(0, 10), 10);
        build(x, "ask 1 l=0");
        due("one holds", x.of(0, 10), 1);
    }

    private static void wordsOfClauses() {
        by("offer n E; cut n E; ask n E; leave n; rise n");
        String[] texts = {"offer 1 w=1", "cut 1 w=1", "ask 1 w=1", "leave 1", "rise 1"};
        for (String text : texts) {
            house(text, 0);
            house("rise 1;" + text, 0);
            fault(text.toUpperCase(), 0);
            int word = text.indexOf(' ');
            fault(text.substring(0, word) + text.charAt(word - 1) + text.substring(word), word);
            for (int i = 0; i < word; i++) {
                fault(text.substring(0, i) + "q" + text.substring(i + 1), i);
                String shorter = text.substring(0, i) + text.substring(i + 1);
                fault(shorter, firstOther(text, shorter));
            }
        }
        fault("raise 1", 1);
        fault("offcut 1 w=1", 3);
        fault("leave 1 w=1", 7);
        fault("rise 1 w=1", 6);
        fault("offer 1", 7);
        fault("cut 1;rise 1", 5);
        fault("ask 1;", 5);
        house("ask 1 w=1;leave 1;offer 1 w=1;rise 1;cut 1 w=1", 0);
    }

    private static int firstOther(String text, String shorter) {
        int place = 0;
        while (text.charAt(place) == shorter.charAt(place)) {
            place++;
        }
        return place;
    }

    private static void oneBlankAhead() {
        by("one blank ahead of each part behind the word");
        fault(" leave 5", 0);
        fault("leave5", 5);
        fault("leave  5", 6);
        fault("leave\t5", 5);
        fault("leave_5", 5);
        fault("leave 5 ", 7);
        fault("leave 5 ;rise 1", 7);
        fault("leave 5; rise 1", 8);
        fault("rise5", 4);
        fault("rise  5", 5);
        fault("offer1 w=1", 5);
        fault("offer  1 w=1", 6);
        fault("offer 1w=1", 7);
        fault("offer 1  w=1", 8);
        fault("offer 12w=1", 8);
        fault("offer 1 w =1", 9);
        fault("offer 1 w= 1", 10);
        fault("offer 1 w=1 ", 11);
        fault("offer 1 w=1 &k=1", 11);
        fault("offer 1 w=1& k=1", 12);
        fault("offer 1 w=1| k=1", 12);
        fault("offer 1 ! w=1", 9);
        fault("offer 1 ( w=1)", 9);
        fault("offer 1 (w=1 )", 12);
        fault("cut1 w=1", 3);
        fault("cut  1 w=1", 4);
        fault("cut 1(w=1)", 5);
        fault("cut 1!w=1", 5);
        fault("ask1 w=1", 3);
        fault("ask  1 w=1", 4);
    }

    private static void numbersOfClauses() {
        by("n 1 or 2 digits, no 0 ahead of another");
        int[] good = {0, 1, 9, 10, 19, 90, 99};
        for (int n : good) {
            PayUntold x = staff(100);
            x.set(0, 1, 500);
            due("house of leave and rise " + n, build(x, "leave " + n + ";rise " + n), 0);
            due("leave " + n, x.told(0), n);
            due("rise " + n, x.told(1), n);
            build(x, "offer " + n + " w=0;ask " + n + " w=0");
            due("offer " + n, x.of(0, 9), 500 + n);
            due("ask " + n, x.of(0, 10), n);
            build(x, "cut " + n + " w=0");
            due("cut " + n, x.of(0, 9), 500 - n);
        }
        String[] words = {"offer ", "cut ", "ask ", "leave ", "rise "};
        for (String word : words) {
            int at = word.length();
            String rest = word.charAt(0) == 'l' || word.charAt(0) == 'r' ? "" : " w=1";
            house(word + "0" + rest, 0);
            house(word + "99" + rest, 0);
            fault(word + "00" + rest, at + 1);
            fault(word + "01" + rest, at + 1);
            fault(word + "09" + rest, at + 1);
            fault(word + "000" + rest, at + 1);
            fault(word + "100" + rest, at + 2);
            fault(word + "999" + rest, at + 2);
            fault(word + "-1" + rest, at);
            fault(word + "+1" + rest, at);
            fault(word + rest.trim(), at);
            fault(word + "/" + rest, at);
            fault(word + ":" + rest, at);
            fault(word + "1/" + rest, at + 1);
            fault(word + "1:" + rest, at + 1);
        }
    }

    private static void numbersOfTests() {
        by("a TEST: one of < = >, a number likewise");
        int[] good = {0, 1, 9, 10, 99};
        for (int n : good) {
            house("ask 1 p=" + n, 0);
            house("ask 1 p<" + n, 0);
            house("ask 1 p>" + n, 0);
            house("ask 1 (p=" + n + ")&w=" + n + "|w=" + n, 0);
        }
        fault("ask 1 p=", 8);
        fault("ask 1 p=00", 9);
        fault("ask 1 p=01", 9);
        fault("ask 1 p=100", 10);
        fault("ask 1 p=999", 10);
        fault("ask 1 p=-1", 8);
        fault("ask 1 p=/", 8);
        fault("ask 1 p=:", 8);
        fault("ask 1 p=1/", 9);
        fault("ask 1 p=1:", 9);
        fault("ask 1 p=k", 8);
        fault("ask 1 (p=00)", 10);
        fault("ask 1 (p=100)", 11);
    }

    private static void factsOfTests() {
        by("a TEST: w or k or l or p or u or y");
        for (char fact = 0; fact < 128; fact++) {
            String text = "ask 1 " + fact + "=1";
            if ("wklpuy".indexOf(fact) >= 0) {
                house(text, 0);
            } else {
                fault(text, fact == '!' || fact == '(' ? 7 : 6);
            }
        }
        fault("ask 1 wk=1", 7);
        fault("ask 1 1=w", 6);
    }

    private static void comparisonsOfTests() {
        by("a TEST: one of < = >");
        for (char comparison = 0; comparison < 128; comparison++) {
            String text = "ask 1 w" + comparison + "1";
            if ("<=>".indexOf(comparison) >= 0) {
                house(text, 0);
            } else {
                fault(text, 7);
            }
        }
        fault("ask 1 w==1", 8);
        fault("ask 1 w<=1", 8);
        fault("ask 1 w>=1", 8);
        fault("ask 1 w<>1", 8);
    }

    private static void partsOfConditions() {
        by("E: T, or T|E. T: F, or F&T. F: !F, (E), or a TEST");
        String[] good = {"w=1|w=1", "w=1&w=1", "w=1|w=1|w=1", "w=1&w=1&w=1", "w=1|w=1&w=1|w=1", "!w=1", "!!w=1",
            "(w=1)", "((w=1))", "!(w=1)", "(!w=1)", "(w=1|w=1)", "(w=1)|(w=1)", "(w=1)&!(w=1)", "!w=1&!w=1|!w=1"};
        for (String e : good) {
            house("ask 1 " + e, 0);
        }
        fault("ask 1 |w=1", 6);
        fault("ask 1 &w=1", 6);
        fault("ask 1 )", 6);
        fault("ask 1 ;", 6);
        fault("ask 1 w=1|", 10);
        fault("ask 1 w=1&", 10);
        fault("ask 1 w=1||w=1", 10);
        fault("ask 1 w=1&&w=1", 10);
        fault("ask 1 w=1|&w=1", 10);
        fault("ask 1 w=1&|w=1", 10);
        fault("ask 1 w=1w=1", 9);
        fault("ask 1 w=1!w=1", 9);
        fault("ask 1 w=1(w=1)", 9);
        fault("ask 1 w=1)", 9);
        fault("ask 1 (w=1)w=1", 11);
        fault("ask 1 (w=1)(w=1)", 11);
        fault("ask 1 (w=1))", 11);
        fault("ask 1 (w=1", 10);
        fault("ask 1 (w=1;rise 1", 10);
        fault("ask 1 ((w=1)", 12);
        fault("ask 1 ((w=1);", 12);
        fault("ask 1 ()", 7);
        fault("ask 1 (|w=1)", 7);
        fault("ask 1 (w=1|)", 11);
        fault("ask 1 (w=1&)", 11);
        fault("ask 1 !", 7);
        fault("ask 1 !|w=1", 7);
        fault("ask 1 !)", 7);
        fault("ask 1 (!)", 8);
    }

    /** Some ! and ( by the bits of a number, as many as told. */
    private static String opened(int bits, int many) {
        StringBuilder s = new StringBuilder();
        for (int i = 0; i < many; i++) {
            s.append((bits >> i & 1) == 0 ? '!' : '(');
        }
        return s.toString();
    }

    private static void fiveOpen() {
        by("At most 5 of ! and ( are open");
        for (int bits = 0; bits < 32; bits++) {
            String open = opened(bits, 5);
            String close = ")".repeat(Integer.bitCount(bits));
            house("ask 1 " + open + "w=1" + close, 0);
            house("ask 1 w=1&" + open + "w=1" + close + "|w=2", 0);
            fault("ask 1 " + open + "!w=1" + close, 11);
            fault("ask 1 " + open + "(w=1)" + close, 11);
            if (open.endsWith("(")) {
                fault("ask 1 " + open + "w=1&!w=1" + close, 15);
            } else {
                house("ask 1 " + open + "w=1&!w=1" + close, 0);
            }
            fault("ask 1 " + open + "w=1" + close + ")", 14 + close.length());
        }
        for (int many = 0; many < 5; many++) {
            house("ask 1 " + "!".repeat(many) + "w=1", 0);
            house("ask 1 " + "(".repeat(many) + "w=1" + ")".repeat(many), 0);
        }
    }

    private static void openTillItsEnd() {
        by("a ( till its ) , a ! till its F ends");
        house("ask 1 !!!!!w=1&!!!!!w=1|!!!!!w=1", 0);
        house("ask 1 (((((w=1)))))&(((((w=1)))))|(((((w=1)))))", 0);
        house("ask 1 !!!!!w=1;ask 1 !!!!!w=1", 0);
        house("ask 1 (!w=1&!!!!w=1)", 0);
        fault("ask 1 (!w=1&!!!!!w=1)", 16);
        house("ask 1 (!w=1|!!!!w=1)", 0);
        fault("ask 1 (!w=1|!!!!(w=1))", 16);
        house("ask 1 !(w=1)&!!!!!w=1", 0);
        house("ask 1 !(!(!w=1)|!!!w=1)", 0);
        fault("ask 1 !(!(!w=1)|!!!!w=1)", 19);
        house("ask 1 ((((w=1)&!(w=1))))", 0);
        fault("ask 1 ((((w=1)&!(!w=1))))", 17);
        house("ask 1 ((((!w=1|!w=1&!w=1))))", 0);
        fault("ask 1 ((((!w=1|!(w=1))))", 16);
        house("ask 1 ((((!w=1)&!!w=1)))", 0);
        fault("ask 1 ((((!w=1)&!!!w=1)))", 18);
        house("ask 1 (((((w=1))|(!w=1))))", 0);
        fault("ask 1 (((((w=1))|(!!w=1))))", 19);
    }

    /** A text in which a . stands behind each start of it that is a HOUSE by itself. */
    private static final String[] MARKED = {"offer 1 w=1.0.", "cut 10 !k<2.&l=0.|p>9.9.",
        "ask 99 (u=0|!(y<9&w>3)).", "leave 0.", "rise 9.9.",
        "leave 1.2.;rise 3.;offer 4 !!(w=1).;ask 0 (((!!k=0))).&l=1.|!u>5.5.;cut 7 y<6."};

    private static void faultWithinAText() {
        by("FAULT: the place of the first byte with which no HOUSE can go on");
        for (String marked : MARKED) {
            String text = marked.replace(".", "");
            house(text, 0);
            for (int at = 0; at <= text.length(); at++) {
                String start = text.substring(0, at);
                for (int i = 0; i < STRANGE.length(); i++) {
                    fault(start + STRANGE.charAt(i), at);
                    fault(start + STRANGE.charAt(i) + text.substring(Math.min(at + 1, text.length())), at);
                }
            }
        }
    }

    private static void faultAtTheSize() {
        by("FAULT: the size, if it ends too early");
        for (String marked : MARKED) {
            String start = "";
            for (String piece : marked.split("\\.")) {
                for (int i = 0; i < piece.length(); i++) {
                    if (i > 0 || start.isEmpty()) {
                        fault(start + piece.substring(0, i), start.length() + i);
                    }
                }
                start += piece;
                house(start, 0);
            }
        }
        String text = "ask 1 w=1" + "&w=1".repeat(22);
        due("a text of 97", text.length(), 97);
        fault(text + "&w=", 100);
        fault(text + "&w1", 99);
        fault(text + "&!(", 100);
        fault(text + "0;a", 100);
        fault(text + ";as", 100);
        fault(text + "&k", 99);
    }

    private static void faultLeavesTheHouse() {
        by("the one that held holds");
        PayUntold x = staff(100);
        build(x, "leave 31;rise 32;ask 33 w=0;offer 34 w=0");
        String[] faulty = {"", "leave 1;rise 2;ask 3 w=0;offer 4 w=", "leave 1;", "rise 2 ", "ask 3 w=0)", "x"};
        int[] places = {0, 35, 8, 6, 9, 0};
        for (int i = 0; i < faulty.length; i++) {
            String text = faulty[i];
            due("house of " + text, build(x, text), -10 - places[i]);
            due("leave behind " + text, x.told(0), 31);
            due("rise behind " + text, x.told(1), 32);
            due("wish behind " + text, x.of(0, 10), 33);
            due("offer behind " + text, x.of(0, 9), 134);
            due("houses behind " + text, x.count(1), 1);
            due("signs behind " + text, x.count(4), 0);
        }
        due("the next one's number", build(x, "rise 1"), 1);
        PayUntold none = new PayUntold();
        due("a fault ahead of the first", build(none, "leave 7;rise 8;"), -25);
        due("leave", none.told(0), 20);
        due("rise", none.told(1), 5);
        due("houses", none.count(1), 0);
    }

    private static void fiveHouses() {
        by("HOUSES are numbered from 0 on, 5 at most");
        PayUntold x = new PayUntold();
        for (int h = 0; h < 5; h++) {
            due("a fault between", build(x, "rise"), -14);
            due("house " + h, build(x, "rise 1" + h), h);
            due("houses", x.count(1), h + 1);
        }
        by("house: FULL (ahead of all; THE TAPE stays)");
        due("the sixth, of an empty tape", x.house(), PayUntold.FULL);
        write(x, "rise x");
        due("the sixth, a faulty one", x.house(), PayUntold.FULL);
        due("the tape stays", x.count(4), 6);
        due("and goes on", x.feed('y'), 7);
        due("the sixth again", x.house(), PayUntold.FULL);
        due("the tape stays", x.count(4), 7);
        due("houses", x.count(1), 5);
        due("the fifth holds", x.told(1), 14);
        PayUntold again = new PayUntold();
        again.image();
        for (int h = 0; h < 5; h++) {
            build(again, "rise 1");
        }
        write(again, "rise 77");
        due("the sixth, a whole one", again.house(), PayUntold.FULL);
        due("the tape stays", again.count(4), 7);
        due("the fifth holds", again.told(1), 1);
    }

    private static void newestHouseHolds() {
        by("the newest one holds");
        PayUntold x = staff(100);
        build(x, "leave 1;rise 2;ask 3 w=0;offer 4 w=0;cut 1 w=0");
        due("offer", x.of(0, 9), 103);
        build(x, "rise 9");
        due("leave is as without", x.told(0), 20);
        due("rise", x.told(1), 9);
        due("no wish", x.of(0, 10), 0);
        due("offer is worth", x.of(0, 9), 100);
        build(x, "leave 8");
        due("leave", x.told(0), 8);
        due("rise is as without", x.told(1), 5);
        build(x, "ask 6 w=0");
        due("leave is as without", x.told(0), 20);
        due("wish", x.of(0, 10), 6);
    }

    private static void withoutAHouse() {
        by("without one there are no CLAUSES");
        PayUntold x = staff(0, 999);
        due("leave", x.told(0), 20);
        due("rise", x.told(1), 5);
        due("wish", x.of(0, 10), 0);
        due("offer", x.of(0, 9), 0);
        due("offer", x.of(1, 9), 999);
        due("does", x.of(1, 11), 0);
    }

    private static void lastOfLeaveAndRise() {
        by("leave (20 without), rise (5 without): the last n");
        String[] texts = {"leave 7", "rise 7", "leave 7;leave 0", "rise 7;rise 0", "leave 99;rise 98;leave 1;rise 2",
            "rise 3;rise 4;rise 5;leave 6", "ask 7 w=0", "leave 20;rise 5"};
        int[] leave = {7, 20, 0, 20, 1, 6, 20, 20};
        int[] rise = {5, 7, 5, 0, 2, 5, 5, 5};
        for (int i = 0; i < texts.length; i++) {
            PayUntold x = new PayUntold();
            build(x, texts[i]);
            due("leave of " + texts[i], x.told(0), leave[i]);
            due("rise of " + texts[i], x.told(1), rise[i]);
        }
    }

    /** Which of the WORKERS of a new object have a WISH, as bits. */
    private static void asks(Supplier<PayUntold> made, String e, int who) {
        PayUntold x = made.get();
        build(x, "ask 1 " + e);
        int workers = x.count(0);
        int bits = 0;
        for (int w = 0; w < workers; w++) {
            bits |= x.of(w, 10) == 1 ? 1 << w : 0;
        }
        due("who asks by " + e, bits, who);
    }

    private static void conditionsHold() {
        by("E: T, or T|E. T: F, or F&T. F: !F, (E), or a TEST");
        Supplier<PayUntold> x = () -> staff(0, 0, 0, 0);
        asks(x, "w=1", 0b0010);
        asks(x, "!w=1", 0b1101);
        asks(x, "!!w=1", 0b0010);
        asks(x, "!!!!!w=1", 0b1101);
        asks(x, "w=1|w=2&w=3", 0b0010);
        asks(x, "(w=1|w=2)&w=3", 0b0000);
        asks(x, "w=3&w=2|w=1", 0b0010);
        asks(x, "w=3&(w=2|w=3)", 0b1000);
        asks(x, "!w=1&w<3", 0b0101);
        asks(x, "!w=1|w<3", 0b1111);
        asks(x, "!(w=1|w=3)", 0b0101);
        asks(x, "!(w=1&w=3)", 0b1111);
        asks(x, "w>0&w>1&w>2", 0b1000);
        asks(x, "w>0&w<3&!w=2", 0b0010);
        asks(x, "w=0|w=1|w=3", 0b1011);
        asks(x, "!(!(!w=1))", 0b1101);
        asks(x, "(((((w=1)))))", 0b0010);
        asks(x, "w=1&w=1|w=2&w=2|w=3&w=2", 0b0110);
        asks(x, "(w=0|w=1&(w=1|w=2&(w=3|w=0&(w=0))))", 0b0011);
        asks(x, "!(w=0|!(w=1|!w=2))", 0b1010);
    }

    private static void numberOfTheWorker() {
        by("of a WORKER w its number");
        Supplier<PayUntold> x = () -> staff(0, 0, 0, 0, 0, 0, 0, 0, 0, 0);
        for (int n = 0; n < 10; n++) {
            asks(x, "w=" + n, 1 << n);
        }
        asks(x, "w<0", 0);
        asks(x, "w<1", 1);
        asks(x, "w>8", 1 << 9);
        asks(x, "w>9", 0);
        asks(x, "w=10", 0);
        asks(x, "w<10", 1023);
    }

    private static PayUntold oneOfEachKind() {
        PayUntold x = staff(0, 0, 0, 0, 0, 0, 0);
        for (int w = 0; w < 7; w++) {
            x.knowing(w, w, 9 - w);
        }
        return x;
    }

    private static void kindAndLot() {
        by("k the KIND of its KNOWING, l its LOT");
        Supplier<PayUntold> x = HouseEdgesTest::oneOfEachKind;
        for (int kind = 0; kind < 7; kind++) {
            asks(x, "k=" + kind, 1 << kind);
        }
        asks(x, "k<0", 0);
        asks(x, "k>6", 0);
        asks(x, "k>5", 1 << 6);
        asks(x, "l=0", 0b1010101);
        asks(x, "l=1", 0b0101010);
        asks(x, "l<1", 0b1010101);
        asks(x, "l>0", 0b0101010);
        asks(x, "l>1", 0);
        asks(x, "l=2", 0);
    }

    private static PayUntold tens() {
        PayUntold x = new PayUntold();
        int[] numbers = {0, 9, 10, 19, 20, 989, 990, 999};
        for (int w = 0; w < 8; w++) {
            x.worker(w, numbers[w], numbers[7 - w], 0);
        }
        return x;
    }

    private static void tensOfPayAndWorth() {
        by("p PAY by 10 (cut), u WORTH by 10 (cut)");
        Supplier<PayUntold> x = HouseEdgesTest::tens;
        asks(x, "p=0", 0b00000011);
        asks(x, "p<1", 0b00000011);
        asks(x, "p=1", 0b00001100);
        asks(x, "p=2", 0b00010000);
        asks(x, "p=98", 0b00100000);
        asks(x, "p=99", 0b11000000);
        asks(x, "p>98", 0b11000000);
        asks(x, "p>99", 0);
        asks(x, "u=0", 0b11000000);
        asks(x, "u=1", 0b00110000);
        asks(x, "u=2", 0b00001000);
        asks(x, "u=98", 0b00000100);
        asks(x, "u=99", 0b00000011);
        asks(x, "u>98", 0b00000011);
        asks(x, "u<1", 0b11000000);
    }

    private static void yearModuloTen() {
        by("y THE YEAR modulo 10");
        PayUntold x = staff(0);
        build(x, "ask 1 y=0;ask 2 y=1;ask 4 y=9;ask 8 y>9;ask 16 y>8");
        x.set(0, 0, 999);
        for (int year = 0; year <= 99; year++) {
            int digit = year % 10;
            due("wish in year " + year, x.of(0, 10), digit == 0 ? 1 : digit == 1 ? 2 : digit == 9 ? 20 : 0);
            x.year();
        }
        due("it is still year 99", x.told(3), 99);
        due("wish", x.of(0, 10), 20);
    }

    private static void offerIsBound() {
        by("OFFER: WORTH, and the n of all offer, less those of all cut, together (0 .. 999, else the bound)");
        PayUntold x = staff(0);
        build(x, "offer 99 w=0;offer 1 w=0;cut 50 w=0;cut 50 w=0;offer 40 w=1;cut 30 w=1");
        int[] worths = {0, 1, 500, 998, 999};
        for (int worth : worths) {
            x.set(0, 1, worth);
            due("offers and cuts alike, worth " + worth, x.of(0, 9), worth);
        }
        build(x, "offer 7 w=0;offer 3 l=0");
        int[][] above = {{0, 10}, {988, 998}, {989, 999}, {990, 999}, {999, 999}};
        for (int[] pair : above) {
            x.set(0, 1, pair[0]);
            due("offer 10 more than " + pair[0], x.of(0, 9), pair[1]);
        }
        build(x, "cut 7 w=0;cut 3 l=0");
        int[][] below = {{999, 989}, {11, 1}, {10, 0}, {9, 0}, {0, 0}};
        for (int[] pair : below) {
            x.set(0, 1, pair[0]);
            due("offer 10 less than " + pair[0], x.of(0, 9), pair[1]);
        }
        build(x, "offer 99 w=0;cut 9 w=0");
        x.set(0, 1, 950);
        due("the bound comes behind all", x.of(0, 9), 999);
        build(x, "cut 99 w=0;offer 95 w=0");
        x.set(0, 1, 2);
        due("0 comes behind all", x.of(0, 9), 0);
        x.set(0, 1, 5);
        due("below 0 in between", x.of(0, 9), 1);
        x.set(0, 1, 998);
        due("above 999 in between", x.of(0, 9), 994);
        due("pay is nothing to it", x.set(0, 0, 999), 0);
        due("above 999 in between", x.of(0, 9), 994);
    }

    private static void wishIsNotBound() {
        by("WISH: the n of all ask whose E holds, together");
        PayUntold x = staff(999, 0);
        build(x, "ask 99 l=0" + ";ask 99 w=0".repeat(8));
        due("nine times 99", x.of(0, 10), 891);
        due("none", x.of(1, 10), 0);
        build(x, "ask 0 w=0");
        due("ask 0", x.of(0, 10), 0);
        build(x, "ask 5 w=0;ask 7 w=1;ask 11 w<2;offer 13 w=0;cut 17 w=0");
        due("of those that hold", x.of(0, 10), 16);
        due("of those that hold", x.of(1, 10), 18);
    }
}
