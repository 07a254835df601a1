/** What the tests share: answers compared with those due, texts for THE TAPE, objects to begin with. */
abstract class Checks {
    private static int wrong = 0;
    private static String sentence = "";

    /** The sentence of the document by which the next answers are due. */
    static void by(String words) {
        sentence = words;
    }

    static void due(String call, long got, long want) {
        if (got != want) {
            wrong++;
            System.out.println(sentence + ": " + call + " answered " + got + ", due is " + want);
        }
    }

    static void end() {
        System.out.println(wrong == 0 ? "all answers are as due" : wrong + " answers are not as due");
        if (wrong != 0) {
            System.exit(1);
        }
    }

    /** How many signs THE TAPE has behind it. */
    static int write(PayUntold x, String text) {
        int many = x.count(4);
        for (int i = 0; i < text.length(); i++) {
            many = x.feed(text.charAt(i));
        }
        return many;
    }

    static int build(PayUntold x, String text) {
        write(x, text);
        return x.house();
    }

    /** What house() answers to a text on a new object. */
    static void house(String text, int want) {
        due("house of " + text, build(new PayUntold(), text), want);
    }

    static void fault(String text, int place) {
        house(text, -10 - place);
    }

    /** WORKERS at DESKS 0, 2, 4 .. with the PAY told, WORTH as PAY, LOTS 0, 1, 0 .. */
    static PayUntold staff(int... pay) {
        PayUntold x = new PayUntold();
        for (int w = 0; w < pay.length; w++) {
            x.worker(w < 5 ? 2 * w : 2 * (w - 5) + 1, pay[w], pay[w], w % 2);
        }
        return x;
    }

    /** The same ones, all with the KNOWING of one KIND, v 0. */
    static PayUntold staffOf(int kind, int... pay) {
        PayUntold x = staff(pay);
        for (int w = 0; w < pay.length; w++) {
            x.knowing(w, kind, 0);
        }
        return x;
    }
}
