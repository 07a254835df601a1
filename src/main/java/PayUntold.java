import java.util.Arrays;

/** Workers at desks whose pay nobody tells: what each believes, asks and does by it. */
public final class PayUntold {
    public static final int NONE = -1, BAD = -2, STATE = -3, FULL = -4;

    private static final int MOST_PAY = 999;
    private static final int DESKS = 10;
    private static final int LOTS = 2;
    private static final int KINDS = 7;
    private static final int MOST_V = 9;
    private static final int TELLINGS = 4;
    private static final int TELL_RANGE = 1, TELL_MEAN = 2, TELL_ALL = 3;
    private static final int LAST_YEAR = 99;
    private static final int MOST_YEARS = 20;
    private static final int MOST_NEAR = 99;
    private static final int BAG_MODULUS = 10000;

    private static final int GREATEST_SIGN = 127;
    private static final int MOST_SIGNS = 100;
    private static final int MOST_HOUSES = 5;
    private static final int MOST_CLAUSES = 10;
    private static final int MOST_OPEN = 5;
    private static final int NO_FAULT = -1;
    private static final int OFFER = 0, CUT = 1, ASK = 2, LEAVE = 3, RISE = 4;
    /** In the order of OFFER to RISE: each word is known by the first of its letters. */
    private static final String FIRST_LETTERS = "ocalr";
    private static final int NOT = -1, AND = -2, OR = -3;
    private static final String FACTS = "wklpuy";
    private static final String COMPARISONS = "<=>";
    private static final String DIGITS = "0123456789";

    private static final int MOST_ADVERTS = 12;
    private static final int MOST_LISTED = 10;
    private static final int MOST_TRACED = 20;

    private static final int NOTHING = 0, ASKS = 1, LEAVES = 2;
    private static final int EMPTY = -1;
    private static final int NOBODY = -5;
    private static final int NO_SUCH = -5;
    private static final int OTHER_KIND = -6;
    private static final int FAULT_BASE = -10;
    private static final int WIDE_NONE = -10001, WIDE_BAD = -10002;

    private final Office office;
    private final Papers papers;
    private final Office imageOffice;
    private final Papers imagePapers;
    /** YEARS that are only thought of go by here, so that asking changes nothing. */
    private final Office trial;
    private final Trace traced;
    private boolean imaged;

    public PayUntold() {
        office = new Office();
        papers = new Papers();
        imageOffice = new Office();
        imagePapers = new Papers();
        trial = new Office();
        traced = new Trace();
    }

    // ---- houses, workers

    public int feed(int sign) {
        if (!within(sign, GREATEST_SIGN)) {
            return BAD;
        }
        return papers.signs >= MOST_SIGNS ? FULL : papers.write((byte) sign);
    }

    public int house() {
        if (office.houses >= MOST_HOUSES) {
            return FULL;
        }
        House read = new House(papers.takeTape());
        int fault = read.readText();
        return fault == NO_FAULT ? office.moveInto(read) : FAULT_BASE - fault;
    }

    public int told(int what) {
        switch (what) {
            case 0: return office.house.leave;
            case 1: return office.house.rise;
            case 2: return office.telling;
            case 3: return office.year;
            case 4: return office.gap();
            case 5: return office.allPay();
            default: return WIDE_NONE;
        }
    }

    public int worker(int desk, int pay, int worth, int lot) {
        if (!within(desk, DESKS - 1) || !within(lot, LOTS - 1)) {
            return NONE;
        }
        if (!within(pay, MOST_PAY) || !within(worth, MOST_PAY)) {
            return BAD;
        }
        if (office.workerAt[desk] != EMPTY) {
            return STATE;
        }
        return office.workers >= DESKS ? FULL : office.hire(desk, pay, worth, lot);
    }

    public int knowing(int worker, int kind, int v) {
        if (!office.isWorker(worker) || !within(kind, KINDS - 1)) {
            return NONE;
        }
        return within(v, MOST_V) ? office.become(worker, kind, v) : BAD;
    }

    public int friend(int worker, int other) {
        if (!office.isWorker(worker) || other != -1 && !office.isWorker(other)) {
            return NONE;
        }
        if (other == worker) {
            return BAD;
        }
        int was = office.friend[worker];
        office.friend[worker] = other == -1 ? NOBODY : other;
        return was;
    }

    public int of(int worker, int what) {
        if (!office.isWorker(worker)) {
            return WIDE_NONE;
        }
        switch (what) {
            case 0: return office.desk[worker];
            case 1: return office.pay[worker];
            case 2: return office.worth[worker];
            case 3: return office.lot[worker];
            case 4: return office.friend[worker];
            case 5: return office.knowing[worker].kind();
            case 6: return office.knowing[worker].v;
            case 7: return office.beliefOf(worker);
            case 8: return office.gladBy(worker, office.beliefOf(worker));
            case 9: return office.offerTo(worker);
            case 10: return office.wishOf(worker);
            case 11: return office.doneBy(worker);
            default: return WIDE_NONE;
        }
    }

    public int set(int worker, int what, int n) {
        if (!office.isWorker(worker) || !within(what, 1)) {
            return NONE;
        }
        if (!within(n, MOST_PAY)) {
            return BAD;
        }
        int[] row = what == 0 ? office.pay : office.worth;
        int was = row[worker];
        row[worker] = n;
        return was;
    }

    public int telling(int t) {
        if (!within(t, TELLINGS - 1)) {
            return NONE;
        }
        int was = office.telling;
        office.telling = t;
        return was;
    }

    // ---- years, gaps

    public int year() {
        return office.year >= LAST_YEAR ? STATE : office.goYear();
    }

    public int years(int n, int telling, int what) {
        if (!within(telling, TELLINGS - 1) || !within(what, 2)) {
            return WIDE_NONE;
        }
        if (!within(n, MOST_YEARS)) {
            return WIDE_BAD;
        }
        int left = tryYears(n, telling);
        if (what == 0) {
            return trial.allPay();
        }
        return what == 1 ? left : trial.gap();
    }

    public int best(int n) {
        if (!within(n, MOST_YEARS)) {
            return BAD;
        }
        int best = 0;
        int nearest = 0;
        for (int t = 0; t < TELLINGS; t++) {
            tryYears(n, t);
            int distance = Math.abs(trial.gap());
            if (t == 0 || distance < nearest) {
                nearest = distance;
                best = t;
            }
        }
        return best;
    }

    /** How many leave, together, while n YEARS by a TELLING go by in the trial. */
    private int tryYears(int n, int telling) {
        trial.copyFrom(office);
        trial.telling = telling;
        int left = 0;
        for (int i = 0; i < n; i++) {
            left += trial.goYear();
        }
        return left;
    }

    public int even(int n) {
        return within(n, MOST_NEAR) ? office.leastRises(n) : BAD;
    }

    public int spread(int worker, int n) {
        if (!office.isWorker(worker)) {
            return NONE;
        }
        return within(n, MOST_NEAR) ? office.spreadAround(worker, n) : BAD;
    }

    public int bargain(int worker, int first, int b) {
        if (!office.isWorker(worker) || !within(first, 2)) {
            return NONE;
        }
        return within(b, MOST_PAY) ? office.bargainOf(worker, first, b) : BAD;
    }

    // ---- bags

    public int die(int n) {
        if (!within(n, BAG_MODULUS - 1)) {
            return BAD;
        }
        int was = papers.die;
        papers.die = n;
        return was;
    }

    public int slip(int k) {
        if (k < -1 || k >= office.workers) {
            return NONE;
        }
        if (k == -1) {
            int last = office.slipBehind(office.workers - 1, papers.die);
            return Math.floorMod(last - papers.die, BAG_MODULUS);
        }
        return office.slipBehind(k, papers.die);
    }

    public int known(int some) {
        int all = (1 << office.workers) - 1;
        return (some & ~all) != 0 ? BAD : office.knownBy(some, all);
    }

    // ---- adverts, lists

    public int advert(int worker, int least, int greatest) {
        if (!office.isWorker(worker)) {
            return NONE;
        }
        if (!within(least, MOST_PAY) || !within(greatest, MOST_PAY) || least > greatest) {
            return BAD;
        }
        return papers.adverts >= MOST_ADVERTS ? FULL : papers.addAdvert(worker, least, greatest);
    }

    public int clear() {
        int were = papers.adverts;
        papers.adverts = 0;
        return were;
    }

    public int span(int worker, int what) {
        if (!office.isWorker(worker) || !within(what, 1)) {
            return NONE;
        }
        return papers.spanOf(worker, what);
    }

    public int can(int what) {
        return within(what, 1) ? papers.meanOfSpans(office.workers, what) : NONE;
    }

    public int list(int pay) {
        if (pay == -1) {
            papers.listed = 0;
            return 0;
        }
        if (!within(pay, MOST_PAY)) {
            return BAD;
        }
        return papers.listed >= MOST_LISTED ? FULL : papers.addListed(pay);
    }

    public int looked(int what) {
        if (!within(what, 2)) {
            return NONE;
        }
        int both = Math.min(papers.listed, office.workers);
        return what == 0 ? firstUnlike(both) : changed(both, what == 1);
    }

    private int firstUnlike(int both) {
        for (int w = 0; w < both; w++) {
            if (office.pay[w] != papers.list[w]) {
                return w;
            }
        }
        return NO_SUCH;
    }

    private int changed(int both, boolean less) {
        int many = 0;
        for (int w = 0; w < both; w++) {
            if (less ? office.pay[w] < papers.list[w] : office.pay[w] > papers.list[w]) {
                many++;
            }
        }
        return many;
    }

    // ---- acts, the image

    public int act(int worker, int act, int x) {
        traced.ran = 0;
        if (!office.isWorker(worker)) {
            return 0;
        }
        Knowing knowing = office.knowing[worker];
        switch (act) {
            case 0: return knowing.has(traced, x);
            case 1: return knowing.asks(traced, x);
            case 2: return knowing.tells(traced, x);
            default: return 0;
        }
    }

    public int trace(int i) {
        return i < 0 || i >= traced.ran || i >= MOST_TRACED ? NONE : traced.bodies[i];
    }

    public int as(int worker, int k) {
        if (!office.isWorker(worker) || !within(k, KINDS - 1)) {
            return NONE;
        }
        Knowing knowing = office.knowing[worker];
        return isOf(knowing, k) ? knowing.v : OTHER_KIND;
    }

    private static boolean isOf(Knowing knowing, int k) {
        switch (k) {
            case 1: return knowing instanceof Guessed;
            case 2: return knowing instanceof Listed;
            case 3: return knowing instanceof Saying;
            case 4: return knowing instanceof Friendly;
            case 5: return knowing instanceof Ranged;
            case 6: return knowing instanceof False;
            default: return true;
        }
    }

    public int image() {
        imageOffice.copyFrom(office);
        imagePapers.copyFrom(papers);
        imaged = true;
        return office.workers;
    }

    public int undo() {
        if (!imaged) {
            return STATE;
        }
        office.copyFrom(imageOffice);
        papers.copyFrom(imagePapers);
        return office.workers;
    }

    public int count(int what) {
        switch (what) {
            case 0: return office.workers;
            case 1: return office.houses;
            case 2: return papers.adverts;
            case 3: return papers.listed;
            case 4: return papers.signs;
            case 5: return traced.ran;
            default: return NONE;
        }
    }

    private static boolean within(int n, int greatest) {
        return n >= 0 && n <= greatest;
    }

    /** The WORKERS, what is told them, THE YEAR and the HOUSE that holds: all that a YEAR goes by. */
    private static final class Office {
        int workers;
        final int[] desk = new int[DESKS];
        final int[] workerAt = new int[DESKS];
        final int[] pay = new int[DESKS];
        final int[] worth = new int[DESKS];
        final int[] lot = new int[DESKS];
        final int[] friend = new int[DESKS];
        final Knowing[] knowing = new Knowing[DESKS];
        int telling;
        int year;
        int houses;
        /** Only the newest HOUSE is ever asked, so the older ones are but counted. */
        House house;
        final int[] facts = new int[FACTS.length()];
        final int[] nextPay = new int[DESKS];
        final boolean[] leaves = new boolean[DESKS];

        Office() {
            Arrays.fill(workerAt, EMPTY);
            // None is ever null, so that each may be asked without a look.
            for (int w = 0; w < DESKS; w++) {
                knowing[w] = new Knowing(w, 0);
            }
            house = new House(new byte[0]);
        }

        /** The rows that a YEAR works in are left out: nothing is kept in them. */
        void copyFrom(Office other) {
            workers = other.workers;
            copyRow(other.desk, desk);
            copyRow(other.workerAt, workerAt);
            copyRow(other.pay, pay);
            copyRow(other.worth, worth);
            copyRow(other.lot, lot);
            copyRow(other.friend, friend);
            for (int w = 0; w < DESKS; w++) {
                knowing[w] = other.knowing[w];
            }
            telling = other.telling;
            year = other.year;
            houses = other.houses;
            house = other.house;
        }

        private static void copyRow(int[] from, int[] to) {
            System.arraycopy(from, 0, to, 0, DESKS);
        }

        boolean isWorker(int w) {
            return w >= 0 && w < workers;
        }

        int hire(int at, int startPay, int startWorth, int ofLot) {
            int w = workers;
            workers++;
            desk[w] = at;
            workerAt[at] = w;
            pay[w] = startPay;
            worth[w] = startWorth;
            lot[w] = ofLot;
            friend[w] = NOBODY;
            become(w, 0, 0);
            return w;
        }

        /** The KIND that the KNOWING was. */
        int become(int w, int kind, int v) {
            int was = knowing[w].kind();
            knowing[w] = Knowing.made(kind, w, v);
            return was;
        }

        int moveInto(House newest) {
            house = newest;
            houses++;
            return houses - 1;
        }

        private int ahead(int w) {
            for (int d = desk[w] - 1; d >= 0; d--) {
                if (workerAt[d] != EMPTY) {
                    return workerAt[d];
                }
            }
            return EMPTY;
        }

        private int behind(int w) {
            for (int d = desk[w] + 1; d < DESKS; d++) {
                if (workerAt[d] != EMPTY) {
                    return workerAt[d];
                }
            }
            return EMPTY;
        }

        int payOf(int w) {
            return isWorker(w) ? pay[w] : 0;
        }

        int friendOf(int w) {
            return isWorker(w) ? friend[w] : NOBODY;
        }

        int allPay() {
            int sum = 0;
            for (int w = 0; w < workers; w++) {
                sum += pay[w];
            }
            return sum;
        }

        int meanOfAll() {
            return workers == 0 ? 0 : allPay() / workers;
        }

        /** MEAN of one, those BESIDE it, and one more, if that is a WORKER and not of them. */
        int meanAround(int w, int more) {
            if (!isWorker(w)) {
                return 0;
            }
            int left = ahead(w);
            int right = behind(w);
            int sum = pay[w];
            int many = 1;
            if (left != EMPTY) {
                sum += pay[left];
                many++;
            }
            if (right != EMPTY) {
                sum += pay[right];
                many++;
            }
            if (isWorker(more) && more != w && more != left && more != right) {
                sum += pay[more];
                many++;
            }
            return sum / many;
        }

        /** The half of the least and the greatest PAY of all, together. */
        int middleOfAll() {
            if (workers == 0) {
                return 0;
            }
            int least = MOST_PAY;
            int greatest = 0;
            for (int w = 0; w < workers; w++) {
                least = Math.min(least, pay[w]);
                greatest = Math.max(greatest, pay[w]);
            }
            return (least + greatest) / 2;
        }

        int beliefOf(int w) {
            if (telling == TELL_MEAN || telling == TELL_ALL) {
                return meanOfAll();
            }
            if (telling == TELL_RANGE && !(knowing[w] instanceof Listed)) {
                return middleOfAll();
            }
            return knowing[w].belief(this);
        }

        int gladBy(int w, int belief) {
            int glad = pay[w] - belief;
            return telling == TELL_ALL && glad < 0 ? 2 * glad : glad;
        }

        int offerTo(int w) {
            takeFacts(w);
            int offer = worth[w] + house.together(OFFER, facts) - house.together(CUT, facts);
            return Math.max(0, Math.min(MOST_PAY, offer));
        }

        int wishOf(int w) {
            takeFacts(w);
            return house.together(ASK, facts);
        }

        /** In the order of FACTS. */
        private void takeFacts(int w) {
            facts[0] = w;
            facts[1] = knowing[w].kind();
            facts[2] = lot[w];
            facts[3] = pay[w] / 10;
            facts[4] = worth[w] / 10;
            facts[5] = year % 10;
        }

        int doneBy(int w) {
            return doneFor(w, beliefOf(w), offerTo(w), wishOf(w));
        }

        private int doneFor(int w, int belief, int offer, int wish) {
            int glad = gladBy(w, belief);
            if (glad + house.leave < 0 && offer > pay[w]) {
                return LEAVES;
            }
            return glad < 0 || wish > 0 ? ASKS : NOTHING;
        }

        /** How many leave; all is told first and done then, as each goes by how the YEAR began. */
        int goYear() {
            for (int w = 0; w < workers; w++) {
                int offer = offerTo(w);
                int wish = wishOf(w);
                int done = doneFor(w, beliefOf(w), offer, wish);
                leaves[w] = done == LEAVES;
                nextPay[w] = payBehind(w, done, offer, wish);
            }
            int left = 0;
            for (int w = 0; w < workers; w++) {
                pay[w] = nextPay[w];
                if (leaves[w]) {
                    friend[w] = NOBODY;
                    left++;
                }
            }
            year++;
            return left;
        }

        private int payBehind(int w, int done, int offer, int wish) {
            if (done == LEAVES) {
                return offer;
            }
            if (done != ASKS) {
                return pay[w];
            }
            int more = pay[w] + house.rise + wish;
            if (pay[w] < offer) {
                more = Math.min(more, offer);
            }
            return Math.min(more, MOST_PAY);
        }

        private int manyOf(int ofLot) {
            int many = 0;
            for (int w = 0; w < workers; w++) {
                if (lot[w] == ofLot) {
                    many++;
                }
            }
            return many;
        }

        private int payOfLot(int ofLot) {
            int sum = 0;
            for (int w = 0; w < workers; w++) {
                if (lot[w] == ofLot) {
                    sum += pay[w];
                }
            }
            return sum;
        }

        int gap() {
            int many0 = manyOf(0);
            int many1 = manyOf(1);
            return many0 == 0 || many1 == 0 ? 0 : payOfLot(0) / many0 - payOfLot(1) / many1;
        }

        /** EVEN: the MEAN of the poorer LOT must come up to that of the other one less n. */
        int leastRises(int n) {
            int gap = gap();
            if (Math.abs(gap) <= n) {
                return 0;
            }
            int poorer = gap > 0 ? 1 : 0;
            int many = manyOf(poorer);
            int sum = payOfLot(poorer);
            if (many == 0) {
                return 0;
            }
            int wanted = sum / many + Math.abs(gap) - n;
            return many * wanted - sum;
        }

        int spreadAround(int w, int n) {
            int least = pay[w];
            int greatest = pay[w];
            for (int other = 0; other < workers; other++) {
                if (Math.abs(worth[other] - worth[w]) <= n) {
                    least = Math.min(least, pay[other]);
                    greatest = Math.max(greatest, pay[other]);
                }
            }
            return greatest - least;
        }

        int bargainOf(int w, int first, int b) {
            int belief = beliefOf(w);
            int hopes = belief + wishOf(w);
            int bid = Math.min(b, pay[w] + house.rise);
            int claim = hopes + 10 * knowing[w].v;
            int comes;
            if (first == 0) {
                comes = hopes > bid ? (bid + hopes) / 2 : bid;
            } else if (first == 1) {
                comes = claim > b ? (claim + b) / 2 : claim;
            } else {
                comes = (bid + claim) / 2;
            }
            return comes < belief || comes > b ? NO_SUCH : comes;
        }

        /** What the slip tells behind the k-th in the order of DESKS; the die, if k is below 0. */
        int slipBehind(int k, int die) {
            int slip = die;
            int passed = 0;
            for (int d = 0; d < DESKS && passed <= k; d++) {
                if (workerAt[d] != EMPTY) {
                    slip = (slip + pay[workerAt[d]]) % BAG_MODULUS;
                    passed++;
                }
            }
            return slip;
        }

        int knownBy(int some, int all) {
            int known = 0;
            for (int w = 0; w < workers; w++) {
                int bit = 1 << w;
                boolean seen = isOneOf(some, aheadRound(w)) && isOneOf(some, behindRound(w));
                boolean last = (all & ~some) == bit;
                if ((some & bit) == 0 && (seen || last)) {
                    known |= bit;
                }
            }
            return known;
        }

        private static boolean isOneOf(int some, int w) {
            return (some >> w & 1) != 0;
        }

        private int aheadRound(int w) {
            int ahead = ahead(w);
            return ahead != EMPTY ? ahead : lastWorker();
        }

        private int behindRound(int w) {
            int behind = behind(w);
            return behind != EMPTY ? behind : firstWorker();
        }

        /** In the order of DESKS; asked only while there are WORKERS. */
        private int firstWorker() {
            for (int d = 0; d < DESKS; d++) {
                if (workerAt[d] != EMPTY) {
                    return workerAt[d];
                }
            }
            return 0;
        }

        private int lastWorker() {
            for (int d = DESKS - 1; d >= 0; d--) {
                if (workerAt[d] != EMPTY) {
                    return workerAt[d];
                }
            }
            return 0;
        }
    }

    /** What is told by hand: THE TAPE, the die, ADVERTS and the LIST. */
    private static final class Papers {
        final byte[] tape = new byte[MOST_SIGNS];
        int signs;
        int die;
        final int[] advertWorker = new int[MOST_ADVERTS];
        final int[] advertLeast = new int[MOST_ADVERTS];
        final int[] advertGreatest = new int[MOST_ADVERTS];
        int adverts;
        final int[] list = new int[MOST_LISTED];
        int listed;

        void copyFrom(Papers other) {
            System.arraycopy(other.tape, 0, tape, 0, MOST_SIGNS);
            signs = other.signs;
            die = other.die;
            System.arraycopy(other.advertWorker, 0, advertWorker, 0, MOST_ADVERTS);
            System.arraycopy(other.advertLeast, 0, advertLeast, 0, MOST_ADVERTS);
            System.arraycopy(other.advertGreatest, 0, advertGreatest, 0, MOST_ADVERTS);
            adverts = other.adverts;
            System.arraycopy(other.list, 0, list, 0, MOST_LISTED);
            listed = other.listed;
        }

        int write(byte sign) {
            tape[signs] = sign;
            signs++;
            return signs;
        }

        byte[] takeTape() {
            byte[] text = Arrays.copyOf(tape, signs);
            signs = 0;
            return text;
        }

        int addAdvert(int worker, int least, int greatest) {
            advertWorker[adverts] = worker;
            advertLeast[adverts] = least;
            advertGreatest[adverts] = greatest;
            adverts++;
            return adverts;
        }

        int spanOf(int worker, int what) {
            int least = 0;
            int greatest = MOST_PAY;
            for (int row = 0; row < adverts; row++) {
                if (advertWorker[row] == worker) {
                    least = Math.max(least, advertLeast[row]);
                    greatest = Math.min(greatest, advertGreatest[row]);
                }
            }
            if (least > greatest) {
                return NO_SUCH;
            }
            return what == 0 ? least : greatest;
        }

        int meanOfSpans(int workers, int what) {
            int sum = 0;
            for (int w = 0; w < workers; w++) {
                int bound = spanOf(w, what);
                if (bound == NO_SUCH) {
                    return NO_SUCH;
                }
                sum += bound;
            }
            return workers == 0 ? 0 : sum / workers;
        }

        int addListed(int pay) {
            list[listed] = pay;
            listed++;
            return listed;
        }
    }

    /** A text and, once it is read without a FAULT, its CLAUSES: never changed from then on. */
    private static final class House {
        int leave = 20;
        int rise = 5;
        private final byte[] text;
        private int place;
        private int clauses;
        private final int[] word = new int[MOST_CLAUSES];
        private final int[] amount = new int[MOST_CLAUSES];
        /** Where the code of each clause ends; it begins where that of the one ahead ends. */
        private final int[] end = new int[MOST_CLAUSES];
        /** All E, operators behind what they join; each code stands for a sign of the text or more. */
        private final int[] code;
        private int length;

        House(byte[] text) {
            this.text = text;
            code = new int[text.length];
        }

        /** The FAULT, or NO_FAULT. */
        int readText() {
            for (int c = 0; c < MOST_CLAUSES; c++) {
                if (!readClause()) {
                    return place;
                }
                boolean more = c + 1 < MOST_CLAUSES && take(';');
                if (!more) {
                    return place == text.length ? NO_FAULT : place;
                }
            }
            return place;
        }

        private boolean readClause() {
            int kind = takeOneOf(FIRST_LETTERS);
            if (kind < 0 || !takeWord(restOf(kind)) || !take(' ')) {
                return false;
            }
            int n = readNumber();
            if (n < 0) {
                return false;
            }
            if (kind == LEAVE) {
                leave = n;
                return true;
            }
            if (kind == RISE) {
                rise = n;
                return true;
            }
            return take(' ') && readEither(0) && keep(kind, n);
        }

        /** The word behind its first letter. */
        private static String restOf(int kind) {
            switch (kind) {
                case OFFER: return "ffer";
                case CUT: return "ut";
                case ASK: return "sk";
                case LEAVE: return "eave";
                default: return "ise";
            }
        }

        private boolean keep(int kind, int n) {
            if (clauses >= MOST_CLAUSES) {
                return false;
            }
            word[clauses] = kind;
            amount[clauses] = n;
            end[clauses] = length;
            clauses++;
            return true;
        }

        /** E: the loop ends with the text at the latest, as each turn takes signs of it. */
        private boolean readEither(int open) {
            boolean good = readBoth(open);
            for (int i = 0; good && i < MOST_SIGNS && take('|'); i++) {
                good = readBoth(open) && emit(OR);
            }
            return good;
        }

        /** T. */
        private boolean readBoth(int open) {
            boolean good = readPart(open);
            for (int i = 0; good && i < MOST_SIGNS && take('&'); i++) {
                good = readPart(open) && emit(AND);
            }
            return good;
        }

        /** F: with all open that may be, only a TEST can follow. */
        private boolean readPart(int open) {
            if (open < MOST_OPEN && take('!')) {
                return readPart(open + 1) && emit(NOT);
            }
            if (open < MOST_OPEN && take('(')) {
                return readEither(open + 1) && take(')');
            }
            int fact = takeOneOf(FACTS);
            int comparison = fact < 0 ? -1 : takeOneOf(COMPARISONS);
            int n = comparison < 0 ? -1 : readNumber();
            return n >= 0 && emit((fact * 3 + comparison) * 100 + n);
        }

        /** A number below 100, or -1; behind a 0 no digit is taken. */
        private int readNumber() {
            int first = takeOneOf(DIGITS);
            if (first <= 0) {
                return first;
            }
            int second = takeOneOf(DIGITS);
            return second < 0 ? first : 10 * first + second;
        }

        private boolean take(char wanted) {
            if (place >= text.length || text[place] != wanted) {
                return false;
            }
            place++;
            return true;
        }

        private boolean takeWord(String wanted) {
            for (int i = 0; i < wanted.length(); i++) {
                if (!take(wanted.charAt(i))) {
                    return false;
                }
            }
            return true;
        }

        /** Which of some signs stood there, or -1. */
        private int takeOneOf(String signs) {
            int which = place < text.length ? signs.indexOf((char) text[place]) : -1;
            if (which >= 0) {
                place++;
            }
            return which;
        }

        private boolean emit(int next) {
            if (length >= code.length) {
                return false;
            }
            code[length] = next;
            length++;
            return true;
        }

        /** The n of all clauses of a word whose E holds. */
        int together(int ofWord, int[] facts) {
            int sum = 0;
            for (int c = 0; c < clauses; c++) {
                if (word[c] == ofWord && holds(c, facts)) {
                    sum += amount[c];
                }
            }
            return sum;
        }

        /** The bits are a stack: at most 13 stand at once, two a level open and one on top. */
        private boolean holds(int clause, int[] facts) {
            int bits = 0;
            int from = clause == 0 ? 0 : end[clause - 1];
            for (int i = from; i < end[clause]; i++) {
                if (code[i] == NOT) {
                    bits ^= 1;
                } else if (code[i] == AND) {
                    bits = bits >>> 1 & (bits | ~1);
                } else if (code[i] == OR) {
                    bits = bits >>> 1 | bits & 1;
                } else {
                    bits = bits << 1 | (testHolds(code[i], facts) ? 1 : 0);
                }
            }
            return (bits & 1) != 0;
        }

        private static boolean testHolds(int code, int[] facts) {
            int which = code / 300;
            if (which < 0 || which >= facts.length) {
                return false;
            }
            int fact = facts[which];
            int n = code % 100;
            switch (code / 100 % 3) {
                case 0: return fact < n;
                case 1: return fact == n;
                default: return fact > n;
            }
        }
    }

    /** The bodies that ran in the latest act. */
    private static final class Trace {
        final int[] bodies = new int[MOST_TRACED];
        int ran;

        void began(int body) {
            if (ran >= 0 && ran < MOST_TRACED) {
                bodies[ran] = body;
            }
            ran++;
        }
    }

    /** Never changed, so that an IMAGE may hold the same one. */
    private static class Knowing {
        final int number;
        final int v;

        Knowing(int number, int v) {
            this.number = number;
            this.v = v;
        }

        static Knowing made(int kind, int number, int v) {
            switch (kind) {
                case 1: return new Guessed(number, v);
                case 2: return new Listed(number, v);
                case 3: return new Saying(number, v);
                case 4: return new Friendly(number, v);
                case 5: return new Ranged(number, v);
                case 6: return new False(number, v);
                default: return new Knowing(number, v);
            }
        }

        int kind() {
            return 0;
        }

        int belief(Office office) {
            return office.payOf(number);
        }

        int has(Trace trace, int x) {
            trace.began(1);
            return x + number;
        }

        int asks(Trace trace, int x) {
            trace.began(2);
            return has(trace, x) - v;
        }

        int tells(Trace trace, int x) {
            trace.began(3);
            return asks(trace, x) * 2;
        }
    }

    private static class Guessed extends Knowing {
        Guessed(int number, int v) {
            super(number, v);
        }

        int kind() {
            return 1;
        }

        int belief(Office office) {
            return office.meanAround(number, NOBODY);
        }

        int has(Trace trace, int x) {
            trace.began(11);
            return super.has(trace, x * 3);
        }
    }

    private static class Listed extends Knowing {
        Listed(int number, int v) {
            super(number, v);
        }

        int kind() {
            return 2;
        }

        int belief(Office office) {
            return office.meanOfAll();
        }

        int asks(Trace trace, int x) {
            trace.began(21);
            return -super.asks(trace, x);
        }
    }

    private static class Saying extends Knowing {
        Saying(int number, int v) {
            super(number, v);
        }

        int kind() {
            return 3;
        }

        int belief(Office office) {
            return office.payOf(number) + v;
        }

        int tells(Trace trace, int x) {
            trace.began(31);
            return super.tells(trace, x) ^ 7;
        }
    }

    private static final class Friendly extends Guessed {
        Friendly(int number, int v) {
            super(number, v);
        }

        int kind() {
            return 4;
        }

        int belief(Office office) {
            return office.meanAround(number, office.friendOf(number));
        }

        int tells(Trace trace, int x) {
            trace.began(41);
            return super.tells(trace, x - 1) + has(trace, 2);
        }
    }

    private static final class Ranged extends Listed {
        Ranged(int number, int v) {
            super(number, v);
        }

        int kind() {
            return 5;
        }

        int belief(Office office) {
            return office.middleOfAll();
        }

        int has(Trace trace, int x) {
            trace.began(51);
            return super.has(trace, x) ^ number;
        }
    }

    private static final class False extends Saying {
        False(int number, int v) {
            super(number, v);
        }

        int kind() {
            return 6;
        }

        int belief(Office office) {
            return super.belief(office) + 10 * v;
        }

        int asks(Trace trace, int x) {
            trace.began(61);
            return super.asks(trace, x) + v;
        }
    }
}
