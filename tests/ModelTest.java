import java.util.ArrayList;
import java.util.HashMap;
import java.util.List;
import java.util.Map;
import java.util.TreeMap;
import java.util.TreeSet;

/** Long runs of calls, each answer compared with that of a second, plainer program of the same document. */
public final class ModelTest {
    private static final int RUNS = 900;
    /** The last turn and the look at all behind it may bring 266 more: an object has 512 calls. */
    private static final int CALLS = 245;
    private static int wrong = 0;

    public static void main(String[] args) {
        for (int run = 1; run <= RUNS && wrong < 10; run++) {
            new Run(run).go();
        }
        for (int run = 1; run <= 1500 && wrong < 10; run++) {
            new Run(-run).compareHouse();
        }
        System.out.println(wrong == 0 ? "class and model agree" : wrong + " answers are not the model's");
        if (wrong != 0) {
            System.exit(1);
        }
    }

    /** Calls that follow from the run's number alone. */
    private static final class Run {
        private final int number;
        private long seed;
        private final PayUntold x = new PayUntold();
        private final Model model = new Model();
        private final List<String> said = new ArrayList<>();

        Run(int number) {
            this.number = number;
            seed = 88172645463325252L + 7919L * number;
            for (int i = 0; i < 20; i++) {
                below(2);
            }
        }

        private int below(int n) {
            seed = seed * 6364136223846793005L + 1442695040888963407L;
            return (int) ((seed >>> 33) % n);
        }

        private boolean once(int in) {
            return below(in) == 0;
        }

        /** least .. greatest, and now and then a number just outside or far off. */
        private int from(int least, int greatest) {
            if (once(25)) {
                int[] odd = {least - 1, greatest + 1, Integer.MIN_VALUE, Integer.MAX_VALUE, -1, -5};
                return odd[below(odd.length)];
            }
            if (once(8)) {
                return once(2) ? least : greatest;
            }
            return least + below(greatest - least + 1);
        }

        /** PAY: in some runs near together, so that bounds and ties are met. */
        private int pay() {
            return number % 3 == 0 ? from(0, 999) : number % 3 == 1 ? from(80, 140) : from(900, 999);
        }

        private int who() {
            return once(20) ? from(0, 9) : from(0, Math.max(0, model.world.workers.size() - 1));
        }

        private void due(String call, int got, int want) {
            said.add(call + " = " + got);
            if (got != want) {
                wrong++;
                System.out.println("run " + number + ", call " + said.size() + ": " + call
                    + " answered " + got + ", the model " + want);
            }
        }

        void go() {
            int workers = 1 + below(10);
            while (said.size() < CALLS && wrong < 10) {
                if (model.world.workers.size() < workers && once(3)) {
                    int[] a = {from(0, 9), pay(), pay(), from(0, 1)};
                    due("worker" + java.util.Arrays.toString(a), x.worker(a[0], a[1], a[2], a[3]),
                        model.worker(a[0], a[1], a[2], a[3]));
                } else if (once(60)) {
                    build(text(70));
                } else {
                    call(below(34));
                }
            }
            compareAll();
        }

        private void build(String text) {
            for (int i = 0; i < text.length(); i++) {
                due("feed", x.feed(text.charAt(i)), model.feed(text.charAt(i)));
            }
            due("house of " + text, x.house(), model.house());
        }

        void compareHouse() {
            build(text(100));
            for (int w = 0; w < 10; w++) {
                int[] a = {9 - w, below(1000), below(1000), below(2)};
                due("worker", x.worker(a[0], a[1], a[2], a[3]), model.worker(a[0], a[1], a[2], a[3]));
                int kind = below(7);
                due("knowing", x.knowing(w, kind, 1), model.knowing(w, kind, 1));
            }
            due("year", x.year(), model.year());
            compareAll();
        }

        private void compareAll() {
            for (int w = 0; w < model.world.workers.size(); w++) {
                for (int what = 0; what < 12; what++) {
                    due("of(" + w + ", " + what + ")", x.of(w, what), model.of(w, what));
                }
            }
            for (int what = 0; what < 6; what++) {
                due("told(" + what + ")", x.told(what), model.told(what));
                due("count(" + what + ")", x.count(what), model.count(what));
            }
        }

        private String text(int most) {
            StringBuilder s = new StringBuilder();
            int clauses = once(6) ? 9 + below(4) : 1 + below(4);
            for (int c = 0; c < clauses; c++) {
                String clause = (c == 0 ? "" : ";") + clause(clauses > 5);
                if (s.length() + clause.length() <= most) {
                    s.append(clause);
                }
            }
            if (once(2)) {
                spoil(s, most);
            }
            return s.toString();
        }

        private void spoil(StringBuilder s, int most) {
            String signs = "offer cut ask leave rise ;&|!()<=>wklpuy0123456789xX\0\u007f";
            int at = below(s.length() + 1);
            char sign = signs.charAt(below(signs.length()));
            int way = below(4);
            if (way == 0) {
                s.setLength(at);
            } else if (way == 1 && s.length() < most) {
                s.insert(at, sign);
            } else if (way == 2 && at < s.length()) {
                s.setCharAt(at, sign);
            } else if (at < s.length()) {
                s.deleteCharAt(at);
            }
        }

        private String clause(boolean small) {
            int kind = small ? 3 + below(2) : below(5);
            String word = new String[] {"offer", "cut", "ask", "leave", "rise"}[kind];
            String start = word + " " + (once(3) ? below(100) : below(25));
            return kind > 2 ? start : start + " " + either(once(10) ? 6 : 3);
        }

        private String either(int deep) {
            StringBuilder s = new StringBuilder(both(deep));
            while (once(4)) {
                s.append('|').append(both(deep));
            }
            return s.toString();
        }

        private String both(int deep) {
            StringBuilder s = new StringBuilder(part(deep));
            while (once(4)) {
                s.append('&').append(part(deep));
            }
            return s.toString();
        }

        private String part(int deep) {
            if (deep > 0 && once(deep > 3 ? 2 : 4)) {
                return once(2) ? "!" + part(deep - 1) : "(" + either(deep - 1) + ")";
            }
            int fact = below(6);
            int[] greatest = {10, 7, 2, 100, 100, 10};
            return "" + "wklpuy".charAt(fact) + "<=>".charAt(below(3)) + below(greatest[fact]);
        }

        private void call(int which) {
            int w = who();
            int a = from(0, 9);
            int b = pay();
            switch (which) {
                case 0: case 1:
                    a = from(0, 6);
                    b = from(0, 9);
                    due("knowing(" + w + ", " + a + ", " + b + ")", x.knowing(w, a, b), model.knowing(w, a, b));
                    break;
                case 2: case 3:
                    a = once(5) ? -1 : who();
                    due("friend(" + w + ", " + a + ")", x.friend(w, a), model.friend(w, a));
                    break;
                case 4: case 5: case 6: case 7: case 8:
                    a = from(0, 11);
                    due("of(" + w + ", " + a + ")", x.of(w, a), model.of(w, a));
                    break;
                case 9: case 10:
                    a = from(0, 1);
                    due("set(" + w + ", " + a + ", " + b + ")", x.set(w, a, b), model.set(w, a, b));
                    break;
                case 11:
                    a = from(0, 3);
                    due("telling(" + a + ")", x.telling(a), model.telling(a));
                    break;
                case 12:
                    due("year()", x.year(), model.year());
                    break;
                case 13: case 14:
                    a = from(0, 20);
                    b = from(0, 3);
                    int part = from(0, 2);
                    due("years(" + a + ", " + b + ", " + part + ")", x.years(a, b, part), model.years(a, b, part));
                    break;
                case 15:
                    a = from(0, 20);
                    due("best(" + a + ")", x.best(a), model.best(a));
                    break;
                case 16:
                    a = from(0, 99);
                    due("even(" + a + ")", x.even(a), model.even(a));
                    break;
                case 17:
                    a = from(0, 99);
                    due("spread(" + w + ", " + a + ")", x.spread(w, a), model.spread(w, a));
                    break;
                case 18: case 19: case 20:
                    a = from(0, 2);
                    due("bargain(" + w + ", " + a + ", " + b + ")", x.bargain(w, a, b), model.bargain(w, a, b));
                    break;
                default:
                    callMore(which, w, a, b);
            }
        }

        private void callMore(int which, int w, int a, int b) {
            switch (which) {
                case 21:
                    a = from(0, 9999);
                    due("die(" + a + ")", x.die(a), model.die(a));
                    break;
                case 22: case 23:
                    a = once(3) ? -1 : who();
                    due("slip(" + a + ")", x.slip(a), model.slip(a));
                    break;
                case 24: case 25:
                    a = from(0, (1 << model.world.workers.size()) - 1);
                    due("known(" + a + ")", x.known(a), model.known(a));
                    break;
                case 26:
                    if (once(9)) {
                        due("clear()", x.clear(), model.clear());
                        break;
                    }
                    a = from(0, 500);
                    b = from(400, 999);
                    due("advert(" + w + ", " + a + ", " + b + ")", x.advert(w, a, b), model.advert(w, a, b));
                    break;
                case 27:
                    a = from(0, 1);
                    due("span(" + w + ", " + a + ")", x.span(w, a), model.span(w, a));
                    due("can(" + a + ")", x.can(a), model.can(a));
                    break;
                case 28:
                    b = once(12) ? -1 : once(2) && model.world.list.size() < model.world.workers.size()
                        ? model.world.workers.get(model.world.list.size()).pay : b;
                    due("list(" + b + ")", x.list(b), model.list(b));
                    break;
                case 29:
                    a = from(0, 2);
                    due("looked(" + a + ")", x.looked(a), model.looked(a));
                    break;
                case 30: case 31:
                    a = from(0, 2);
                    b = once(5) ? from(0, 1) * 1431655765 : b;
                    due("act(" + w + ", " + a + ", " + b + ")", x.act(w, a, b), model.act(w, a, b));
                    for (int i = -1; i < 9; i++) {
                        due("trace(" + i + ")", x.trace(i), model.trace(i));
                    }
                    break;
                case 32:
                    a = from(0, 6);
                    due("as(" + w + ", " + a + ")", x.as(w, a), model.as(w, a));
                    break;
                default:
                    if (once(3)) {
                        due("image()", x.image(), model.image());
                    } else if (once(3)) {
                        due("undo()", x.undo(), model.undo());
                        compareAll();
                    }
            }
        }
    }

    private static final class Worker {
        int desk;
        int pay;
        int worth;
        int lot;
        int friend = -5;
        int kind;
        int v;

        Worker copy() {
            Worker c = new Worker();
            c.desk = desk;
            c.pay = pay;
            c.worth = worth;
            c.lot = lot;
            c.friend = friend;
            c.kind = kind;
            c.v = v;
            return c;
        }
    }

    private static final class World {
        List<Worker> workers = new ArrayList<>();
        List<String> houses = new ArrayList<>();
        String tape = "";
        int telling;
        int year;
        int die;
        List<int[]> adverts = new ArrayList<>();
        List<Integer> list = new ArrayList<>();

        World copy() {
            World c = new World();
            for (Worker w : workers) {
                c.workers.add(w.copy());
            }
            c.houses.addAll(houses);
            c.tape = tape;
            c.telling = telling;
            c.year = year;
            c.die = die;
            c.adverts.addAll(adverts);
            c.list.addAll(list);
            return c;
        }
    }

    /** Which texts are HOUSES, and with which none can go on, by trying what could follow. */
    private static final class Texts {
        private static final String NUMBER = "(0|[1-9][0-9]?)";
        private static final List<String> TAILS = tails();
        private static final Map<String, Boolean> CLAUSES = new HashMap<>();

        private static List<String> tails() {
            List<String> tails = new ArrayList<>();
            String[] whole = {"offer 1 w=1", "cut 1 w=1", "ask 1 w=1", "leave 1", "rise 1"};
            tails.add("");
            for (String word : whole) {
                for (int i = word.length() - 1; i >= 0; i--) {
                    for (String close = ""; close.length() <= 5; close += ")") {
                        tails.add(word.substring(i) + close);
                    }
                }
            }
            for (String close = ")"; close.length() <= 5; close += ")") {
                tails.add(close);
            }
            return tails;
        }

        static int fault(String text) {
            for (int i = 1; i <= text.length(); i++) {
                if (!canGoOn(text.substring(0, i))) {
                    return i - 1;
                }
            }
            return isHouse(text) ? -1 : text.length();
        }

        private static boolean canGoOn(String start) {
            for (String tail : TAILS) {
                if (isHouse(start + tail)) {
                    return true;
                }
            }
            return false;
        }

        private static boolean isHouse(String text) {
            String[] clauses = text.split(";", -1);
            if (clauses.length > 10) {
                return false;
            }
            for (String clause : clauses) {
                if (!CLAUSES.computeIfAbsent(clause, Texts::isClause)) {
                    return false;
                }
            }
            return true;
        }

        private static boolean isClause(String clause) {
            if (clause.matches("(leave|rise) " + NUMBER)) {
                return true;
            }
            String[] parts = clause.split(" ", -1);
            return parts.length == 3 && parts[0].matches("offer|cut|ask") && parts[1].matches(NUMBER)
                && isEither(parts[2], 0);
        }

        private static boolean isEither(String e, int open) {
            for (String t : split(e, '|')) {
                for (String f : split(t, '&')) {
                    if (!isPart(f, open)) {
                        return false;
                    }
                }
            }
            return true;
        }

        private static boolean isPart(String f, int open) {
            if (f.startsWith("!")) {
                return open < 5 && isPart(f.substring(1), open + 1);
            }
            if (f.startsWith("(") && f.endsWith(")")) {
                return open < 5 && isEither(f.substring(1, f.length() - 1), open + 1);
            }
            return f.matches("[wklpuy][<=>]" + NUMBER);
        }

        /** At a sign that stands in no ( .. ). */
        private static List<String> split(String text, char at) {
            List<String> parts = new ArrayList<>();
            int open = 0;
            int from = 0;
            for (int i = 0; i < text.length(); i++) {
                open += text.charAt(i) == '(' ? 1 : text.charAt(i) == ')' ? -1 : 0;
                if (open == 0 && text.charAt(i) == at) {
                    parts.add(text.substring(from, i));
                    from = i + 1;
                }
            }
            parts.add(text.substring(from));
            return parts;
        }

        static boolean holds(String e, Map<Character, Integer> facts) {
            for (String t : split(e, '|')) {
                boolean all = true;
                for (String f : split(t, '&')) {
                    all &= partHolds(f, facts);
                }
                if (all) {
                    return true;
                }
            }
            return false;
        }

        private static boolean partHolds(String f, Map<Character, Integer> facts) {
            if (f.charAt(0) == '!') {
                return !partHolds(f.substring(1), facts);
            }
            if (f.charAt(0) == '(') {
                return holds(f.substring(1, f.length() - 1), facts);
            }
            int sign = Integer.compare(facts.get(f.charAt(0)), Integer.parseInt(f.substring(2)));
            return sign == "<=>".indexOf(f.charAt(1)) - 1;
        }
    }

    private static final class Model {
        World world = new World();
        private World image = null;
        private List<Integer> bodies = new ArrayList<>();

        private boolean no(int w) {
            return w < 0 || w >= world.workers.size();
        }

        private static boolean out(int n, int least, int greatest) {
            return n < least || n > greatest;
        }

        private List<Integer> pays() {
            List<Integer> pays = new ArrayList<>();
            for (Worker w : world.workers) {
                pays.add(w.pay);
            }
            return pays;
        }

        private static int sum(List<Integer> of) {
            return of.stream().mapToInt(n -> n).sum();
        }

        private static int mean(List<Integer> of) {
            return of.isEmpty() ? 0 : sum(of) / of.size();
        }

        private String[] clauses() {
            return world.houses.isEmpty() ? new String[0] : world.houses.get(world.houses.size() - 1).split(";");
        }

        private int lastOf(String word, int without) {
            int n = without;
            for (String clause : clauses()) {
                String[] parts = clause.split(" ");
                n = parts[0].equals(word) ? Integer.parseInt(parts[1]) : n;
            }
            return n;
        }

        private int together(String word, int w) {
            Worker one = world.workers.get(w);
            Map<Character, Integer> facts = Map.of('w', w, 'k', one.kind, 'l', one.lot,
                'p', one.pay / 10, 'u', one.worth / 10, 'y', world.year % 10);
            int n = 0;
            for (String clause : clauses()) {
                String[] parts = clause.split(" ");
                if (parts[0].equals(word) && Texts.holds(parts[2], facts)) {
                    n += Integer.parseInt(parts[1]);
                }
            }
            return n;
        }

        private int offer(int w) {
            int n = world.workers.get(w).worth + together("offer", w) - together("cut", w);
            return n < 0 ? 0 : n > 999 ? 999 : n;
        }

        private TreeMap<Integer, Integer> desks() {
            TreeMap<Integer, Integer> desks = new TreeMap<>();
            for (int w = 0; w < world.workers.size(); w++) {
                desks.put(world.workers.get(w).desk, w);
            }
            return desks;
        }

        private int belief(int w) {
            Worker one = world.workers.get(w);
            boolean listed = one.kind == 2 || one.kind == 5;
            int kind = world.telling >= 2 ? 2 : world.telling == 1 && !listed ? 5 : one.kind;
            TreeSet<Integer> near = new TreeSet<>();
            near.add(w);
            if (desks().lowerEntry(one.desk) != null) {
                near.add(desks().lowerEntry(one.desk).getValue());
            }
            if (desks().higherEntry(one.desk) != null) {
                near.add(desks().higherEntry(one.desk).getValue());
            }
            if (kind == 4 && one.friend != -5) {
                near.add(one.friend);
            }
            List<Integer> nearPays = new ArrayList<>();
            for (int other : near) {
                nearPays.add(world.workers.get(other).pay);
            }
            switch (kind) {
                case 0: return one.pay;
                case 1: case 4: return mean(nearPays);
                case 2: return mean(pays());
                case 3: return one.pay + one.v;
                case 5: return (new TreeSet<>(pays()).first() + new TreeSet<>(pays()).last()) / 2;
                default: return one.pay + 11 * one.v;
            }
        }

        private int glad(int w) {
            int glad = world.workers.get(w).pay - belief(w);
            return world.telling == 3 ? Math.min(glad, glad * 2) : glad;
        }

        private int does(int w) {
            if (glad(w) + lastOf("leave", 20) < 0 && offer(w) > world.workers.get(w).pay) {
                return 2;
            }
            return glad(w) < 0 || together("ask", w) > 0 ? 1 : 0;
        }

        private int pass() {
            World next = world.copy();
            int left = 0;
            for (int w = 0; w < world.workers.size(); w++) {
                Worker then = next.workers.get(w);
                if (does(w) == 2) {
                    left++;
                    then.pay = offer(w);
                    then.friend = -5;
                } else if (does(w) == 1) {
                    int pay = then.pay + lastOf("rise", 5) + together("ask", w);
                    then.pay = then.pay < offer(w) && pay > offer(w) ? offer(w) : pay > 999 ? 999 : pay;
                }
            }
            next.year++;
            world = next;
            return left;
        }

        private int gap() {
            List<List<Integer>> lots = List.of(new ArrayList<>(), new ArrayList<>());
            for (Worker w : world.workers) {
                lots.get(w.lot).add(w.pay);
            }
            return lots.get(0).isEmpty() || lots.get(1).isEmpty() ? 0 : mean(lots.get(0)) - mean(lots.get(1));
        }

        int feed(int sign) {
            if (out(sign, 0, 127) || world.tape.length() == 100) {
                return out(sign, 0, 127) ? -2 : -4;
            }
            world.tape += (char) sign;
            return world.tape.length();
        }

        int house() {
            if (world.houses.size() == 5) {
                return -4;
            }
            String text = world.tape;
            world.tape = "";
            int fault = Texts.fault(text);
            if (fault >= 0) {
                return -10 - fault;
            }
            world.houses.add(text);
            return world.houses.size() - 1;
        }

        int told(int what) {
            return switch (what) {
                case 0 -> lastOf("leave", 20);
                case 1 -> lastOf("rise", 5);
                case 2 -> world.telling;
                case 3 -> world.year;
                case 4 -> gap();
                case 5 -> sum(pays());
                default -> -10001;
            };
        }

        int worker(int desk, int pay, int worth, int lot) {
            if (out(desk, 0, 9) || out(lot, 0, 1)) {
                return -1;
            }
            if (out(pay, 0, 999) || out(worth, 0, 999)) {
                return -2;
            }
            if (desks().containsKey(desk)) {
                return -3;
            }
            Worker w = new Worker();
            w.desk = desk;
            w.pay = pay;
            w.worth = worth;
            w.lot = lot;
            world.workers.add(w);
            return world.workers.size() - 1;
        }

        int knowing(int w, int kind, int v) {
            if (no(w) || out(kind, 0, 6) || out(v, 0, 9)) {
                return no(w) || out(kind, 0, 6) ? -1 : -2;
            }
            int was = world.workers.get(w).kind;
            world.workers.get(w).kind = kind;
            world.workers.get(w).v = v;
            return was;
        }

        int friend(int w, int other) {
            if (no(w) || no(other) && other != -1) {
                return -1;
            }
            if (w == other) {
                return -2;
            }
            int was = world.workers.get(w).friend;
            world.workers.get(w).friend = other < 0 ? -5 : other;
            return was;
        }

        int of(int w, int what) {
            if (no(w)) {
                return -10001;
            }
            Worker one = world.workers.get(w);
            return switch (what) {
                case 0 -> one.desk;
                case 1 -> one.pay;
                case 2 -> one.worth;
                case 3 -> one.lot;
                case 4 -> one.friend;
                case 5 -> one.kind;
                case 6 -> one.v;
                case 7 -> belief(w);
                case 8 -> glad(w);
                case 9 -> offer(w);
                case 10 -> together("ask", w);
                case 11 -> does(w);
                default -> -10001;
            };
        }

        int set(int w, int what, int n) {
            if (no(w) || out(what, 0, 1) || out(n, 0, 999)) {
                return no(w) || out(what, 0, 1) ? -1 : -2;
            }
            Worker one = world.workers.get(w);
            int was = what == 0 ? one.pay : one.worth;
            one.pay = what == 0 ? n : one.pay;
            one.worth = what == 1 ? n : one.worth;
            return was;
        }

        int telling(int t) {
            if (out(t, 0, 3)) {
                return -1;
            }
            int was = world.telling;
            world.telling = t;
            return was;
        }

        int year() {
            return world.year == 99 ? -3 : pass();
        }

        int years(int n, int telling, int what) {
            if (out(telling, 0, 3) || out(what, 0, 2) || out(n, 0, 20)) {
                return out(telling, 0, 3) || out(what, 0, 2) ? -10001 : -10002;
            }
            World now = world;
            world = now.copy();
            world.telling = telling;
            int left = 0;
            for (int i = 0; i < n; i++) {
                left += pass();
            }
            int[] answers = {sum(pays()), left, gap()};
            world = now;
            return answers[what];
        }

        int best(int n) {
            if (out(n, 0, 20)) {
                return -2;
            }
            TreeMap<Integer, Integer> tellings = new TreeMap<>();
            for (int t = 3; t >= 0; t--) {
                tellings.put(Math.abs(years(n, t, 2)), t);
            }
            return tellings.firstEntry().getValue();
        }

        /** By trying one sum after the other. */
        int even(int n) {
            if (out(n, 0, 99)) {
                return -2;
            }
            int poorer = gap() > 0 ? 1 : 0;
            int[] sums = new int[2];
            int[] sizes = new int[2];
            for (Worker w : world.workers) {
                sums[w.lot] += w.pay;
                sizes[w.lot]++;
            }
            if (sizes[0] == 0 || sizes[1] == 0) {
                return 0;
            }
            int more = 0;
            while (Math.abs(sums[0] / sizes[0] - sums[1] / sizes[1]) > n) {
                sums[poorer]++;
                more++;
            }
            return more;
        }

        int spread(int w, int n) {
            if (no(w) || out(n, 0, 99)) {
                return no(w) ? -1 : -2;
            }
            TreeSet<Integer> like = new TreeSet<>();
            for (Worker other : world.workers) {
                if (!out(other.worth, world.workers.get(w).worth - n, world.workers.get(w).worth + n)) {
                    like.add(other.pay);
                }
            }
            return like.last() - like.first();
        }

        int bargain(int w, int first, int b) {
            if (no(w) || out(first, 0, 2) || out(b, 0, 999)) {
                return no(w) || out(first, 0, 2) ? -1 : -2;
            }
            int bid = Math.min(b, world.workers.get(w).pay + lastOf("rise", 5));
            int hopes = belief(w) + together("ask", w);
            int claim = hopes + 10 * world.workers.get(w).v;
            int[] comes = {hopes > bid ? (bid + hopes) / 2 : bid, claim > b ? (claim + b) / 2 : claim,
                (bid + claim) / 2};
            return out(comes[first], belief(w), b) ? -5 : comes[first];
        }

        int die(int n) {
            if (out(n, 0, 9999)) {
                return -2;
            }
            int was = world.die;
            world.die = n;
            return was;
        }

        int slip(int k) {
            if (out(k, -1, world.workers.size() - 1)) {
                return -1;
            }
            if (k == -1) {
                return sum(pays()) % 10000;
            }
            int n = world.die;
            List<Integer> order = new ArrayList<>(desks().values());
            for (int i = 0; i <= k; i++) {
                n += world.workers.get(order.get(i)).pay;
            }
            return n % 10000;
        }

        int known(int some) {
            int size = world.workers.size();
            if (some < 0 || some >= 1 << size) {
                return -2;
            }
            List<Integer> order = new ArrayList<>(desks().values());
            int bits = 0;
            for (int i = 0; i < size; i++) {
                int w = order.get(i);
                int near = 1 << order.get((i + 1) % size) | 1 << order.get((i + size - 1) % size);
                int others = (1 << size) - 1 - (1 << w);
                if ((some >> w & 1) == 0 && ((some & near) == near || (some & others) == others)) {
                    bits += 1 << w;
                }
            }
            return bits;
        }

        int advert(int w, int least, int greatest) {
            if (no(w)) {
                return -1;
            }
            if (out(least, 0, 999) || out(greatest, 0, 999) || least > greatest) {
                return -2;
            }
            if (world.adverts.size() == 12) {
                return -4;
            }
            world.adverts.add(new int[] {w, least, greatest});
            return world.adverts.size();
        }

        int clear() {
            int were = world.adverts.size();
            world.adverts.clear();
            return were;
        }

        int span(int w, int what) {
            if (no(w) || out(what, 0, 1)) {
                return -1;
            }
            TreeSet<Integer> going = new TreeSet<>();
            for (int pay = 0; pay <= 999; pay++) {
                boolean goes = true;
                for (int[] row : world.adverts) {
                    goes &= row[0] != w || !out(pay, row[1], row[2]);
                }
                if (goes) {
                    going.add(pay);
                }
            }
            return going.isEmpty() ? -5 : what == 0 ? going.first() : going.last();
        }

        int can(int what) {
            if (out(what, 0, 1)) {
                return -1;
            }
            List<Integer> bounds = new ArrayList<>();
            for (int w = 0; w < world.workers.size(); w++) {
                bounds.add(span(w, what));
            }
            return bounds.contains(-5) ? -5 : mean(bounds);
        }

        int list(int pay) {
            if (out(pay, -1, 999)) {
                return -2;
            }
            if (pay == -1) {
                world.list.clear();
            } else if (world.list.size() == 10) {
                return -4;
            } else {
                world.list.add(pay);
            }
            return world.list.size();
        }

        int looked(int what) {
            if (out(what, 0, 2)) {
                return -1;
            }
            int first = -5;
            int less = 0;
            int more = 0;
            for (int w = Math.min(world.list.size(), world.workers.size()) - 1; w >= 0; w--) {
                int now = pays().get(w);
                first = now != world.list.get(w) ? w : first;
                less += now < world.list.get(w) ? 1 : 0;
                more += now > world.list.get(w) ? 1 : 0;
            }
            return what == 0 ? first : what == 1 ? less : more;
        }

        /** By a table of which KIND has a body of which act. */
        int act(int w, int act, int x) {
            bodies = new ArrayList<>();
            return no(w) || out(act, 0, 2) ? 0 : body(world.workers.get(w), w, act, world.workers.get(w).kind, x);
        }

        private static final int[] ABOVE = {-1, 0, 0, 0, 1, 2, 3};

        private int body(Worker one, int i, int act, int from, int x) {
            int[][] has = {{1, 11, 0, 0, 0, 51, 0}, {2, 0, 21, 0, 0, 0, 61}, {3, 0, 0, 31, 41, 0, 0}};
            int k = from;
            while (has[act][k] == 0) {
                k = ABOVE[k];
            }
            bodies.add(has[act][k]);
            switch (has[act][k]) {
                case 1: return x + i;
                case 2: return body(one, i, 0, one.kind, x) - one.v;
                case 3: return body(one, i, 1, one.kind, x) * 2;
                case 11: return body(one, i, 0, ABOVE[k], x * 3);
                case 21: return -body(one, i, 1, ABOVE[k], x);
                case 31: return body(one, i, 2, ABOVE[k], x) ^ 7;
                case 41: return body(one, i, 2, ABOVE[k], x - 1) + body(one, i, 0, one.kind, 2);
                case 51: return body(one, i, 0, ABOVE[k], x) ^ i;
                default: return body(one, i, 1, ABOVE[k], x) + one.v;
            }
        }

        int trace(int i) {
            return out(i, 0, Math.min(20, bodies.size()) - 1) ? -1 : bodies.get(i);
        }

        int as(int w, int k) {
            if (no(w) || out(k, 0, 6)) {
                return -1;
            }
            int kind = world.workers.get(w).kind;
            boolean is = kind == k || k == 0 || ABOVE[kind] == k;
            return is ? world.workers.get(w).v : -6;
        }

        int image() {
            image = world.copy();
            return world.workers.size();
        }

        int undo() {
            if (image == null) {
                return -3;
            }
            world = image.copy();
            return world.workers.size();
        }

        int count(int what) {
            return switch (what) {
                case 0 -> world.workers.size();
                case 1 -> world.houses.size();
                case 2 -> world.adverts.size();
                case 3 -> world.list.size();
                case 4 -> world.tape.length();
                case 5 -> bodies.size();
                default -> -1;
            };
        }
    }
}
