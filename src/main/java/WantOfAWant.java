/**
 * Applications to a board, sent back for want of a want: wants that hang on wants, persons that are
 * led down from one to the next, the laws by which they are, and what can be found out about it all.
 *
 * <p>Every row is made with the object and used again by each call, so that no call makes anything.
 */
public final class WantOfAWant {
    public static final int NONE = -1;

    private static final int OTHER = -2;
    private static final int NOT_TOLD = -1000;
    private static final int WANTS = 12;
    private static final int WANT_SETS = 1 << WANTS;
    private static final int PERSONS = 5;
    private static final int TEXTS = 4;
    private static final int CLAUSES = 24;
    private static final int TAPE = 300;
    private static final int FEED = 20;
    private static final int STEPS = 30;
    private static final int BOOK = 30;
    private static final int SAID = 8;

    private static final int MOST_PAIN = 99;
    private static final int MOST_PURSE = 99;
    private static final int MOST_TEARS = 999;
    private static final int MOST_ANSWERS = 999;
    private static final int MOST_GRANTED = 9999;
    private static final int LAST_DAY = 9999;
    private static final int MOST_DAYS = 60;
    private static final int MOST_SEED = 9999;
    private static final int MOST_YEARS = 40;
    private static final int MOST_LAW = 999;
    private static final int MOST_COST = 99;
    private static final int MOST_BUDGET = PERSONS * MOST_COST;
    private static final int ALL_ODDS = 10;

    private static final int WAITS = 0;
    private static final int GRANTED = 1;
    private static final int SIDE_DOOR = 2;
    private static final int GONE = WANTS;

    private final Board now;
    private final Board kept;
    private final Hall guess;
    private final Text[] texts;
    private final Reader reader;
    private final Law law;
    private final Clerk clerk;
    private final Paths paths;
    private final Asking asking;
    private final Dealings dealings;
    private final int[] tape;
    private int tapeLength;

    public WantOfAWant() {
        now = new Board();
        kept = new Board();
        guess = new Hall();
        texts = new Text[TEXTS];
        for (int i = 0; i < TEXTS; i++) {
            texts[i] = new Text();
        }
        reader = new Reader(texts[0]);
        law = new Law(now.wants);
        clerk = new Clerk(now, texts, law);
        paths = new Paths(now.wants);
        asking = new Asking(now.wants);
        dealings = new Dealings(now);
        tape = new int[TAPE];
        tapeLength = 0;
    }

    // ---- what is told

    public boolean pain(int want, int pain) {
        if (!isWant(want) || pain < 0 || pain > MOST_PAIN) {
            return false;
        }
        now.wants.pains[want] = pain;
        return true;
    }

    public boolean hang(int a, int b, boolean does) {
        return now.wants.tellHanging(a, b, does);
    }

    public int person(int want, int purse) {
        if (!isWant(want) || purse < 0 || purse > MOST_PURSE) {
            return NONE;
        }
        return now.admit(want, purse);
    }

    // ---- texts

    public int feed(int a, int b, int c, int d, int e) {
        if (tapeLength + FEED > TAPE) {
            return NONE;
        }
        putFour(a);
        putFour(b);
        putFour(c);
        putFour(d);
        putFour(e);
        return tapeLength;
    }

    private void putFour(int four) {
        for (int shift = 24; shift >= 0; shift -= 8) {
            if (tapeLength >= 0 && tapeLength < TAPE) {
                tape[tapeLength] = four >> shift & 255;
                tapeLength++;
            }
        }
    }

    public int end(int n) {
        if (n < 0 || n > tapeLength) {
            return NONE;
        }
        tapeLength = n;
        return n;
    }

    public int text() {
        int number = now.textCount;
        if (number < 0 || number >= TEXTS) {
            return NONE;
        }
        reader.read(tape, tapeLength, texts[number]);
        tapeLength = 0;
        if (reader.fault != 0) {
            return NONE;
        }
        now.textCount++;
        return number;
    }

    public int fault(int what) {
        if (!reader.hasRead) {
            return NONE;
        }
        if (what == 0) {
            return reader.fault;
        }
        return what == 1 ? reader.place : NONE;
    }

    public boolean by(int text) {
        if (text != NONE && !isText(text)) {
            return false;
        }
        now.ruling = text;
        return true;
    }

    // ---- what is done

    public int ask(int person) {
        if (!now.hall.doesWait(person)) {
            return NONE;
        }
        now.keepStep();
        return clerk.lead(now.hall, person);
    }

    public boolean give(int person, int want) {
        if (!clerk.canDrop(now.hall, person, want)) {
            return false;
        }
        now.keepStep();
        clerk.drop(now.hall, person, want);
        return true;
    }

    public boolean again(int person, int want) {
        if (!clerk.canReturn(now.hall, person, want)) {
            return false;
        }
        now.keepStep();
        now.hall.seat(person, want, now.hall.purses[person]);
        return true;
    }

    public int day(int n) {
        if (n < 1 || n > MOST_DAYS || now.hall.today + n > LAST_DAY) {
            return NONE;
        }
        int granted = 0;
        for (int i = 0; i < n; i++) {
            now.keepStep();
            granted += clerk.passDay(now.hall);
        }
        return granted;
    }

    public int played(int text) {
        if (!isText(text)) {
            return OTHER;
        }
        Text script = texts[text];
        for (int i = 0; i < CLAUSES && i < script.clauses; i++) {
            if (!carryOut(script.kinds[i], script.firsts[i], script.seconds[i])) {
                return i;
            }
        }
        return NONE;
    }

    private boolean carryOut(int kind, int first, int second) {
        switch (kind) {
            case Tokens.PAIN:
                return pain(second, first);
            case Tokens.HANG:
                return hang(first, second, true);
            case Tokens.PERSON:
                return person(first, second) != NONE;
            case Tokens.ASK:
                return ask(first) != NONE;
            case Tokens.GIVE:
                return give(second, first);
            case Tokens.AGAIN:
                return again(second, first);
            case Tokens.DAY:
                int passed = 0;
                while (passed < first && now.hall.today < LAST_DAY) {
                    now.keepStep();
                    clerk.passDay(now.hall);
                    passed++;
                }
                return passed == first;
            default:
                return true;
        }
    }

    public int years(int seed, int n) {
        if (seed < 0 || seed > MOST_SEED || n < 1 || n > MOST_YEARS) {
            return NONE;
        }
        now.keepStep();
        now.hall.lot = seed * 2 + Hall.FIRST_LOT;
        for (int i = 0; i < n; i++) {
            clerk.passDraw(now.hall);
        }
        return now.hall.today;
    }

    public int undo() {
        return now.takeBack() ? now.stepCount : NONE;
    }

    // ---- what is so

    public int of(int person, int what) {
        Hall hall = now.hall;
        if (!hall.isThere(person)) {
            return NONE;
        }
        switch (what) {
            case 0:
                return hall.places[person];
            case 1:
                return hall.states[person];
            case 2:
                return hall.tears[person];
            case 3:
                return hall.purses[person];
            case 4:
                return hall.dropped[person];
            case 5:
                return hall.answers[person];
            case 6:
                return law.saysNeed(clerk.rulingText(), hall, person);
            case 7:
                return clerk.nextPlace(hall, person);
            default:
                return NONE;
        }
    }

    public int ofWant(int want, int what) {
        if (!isWant(want)) {
            return NONE;
        }
        switch (what) {
            case 0:
                return now.wants.pains[want];
            case 1:
                return now.wants.hangs[want];
            case 2:
                return now.wants.lower[want];
            case 3:
                return now.wants.depths[want];
            default:
                return NONE;
        }
    }

    public int tells(int person, int want) {
        if (!now.hall.isThere(person) || !isWant(want)) {
            return NOT_TOLD;
        }
        return law.saysNext(clerk.rulingText(), now.hall, person, want);
    }

    public int is(int what) {
        switch (what) {
            case 0:
                return now.hall.today;
            case 1:
                return now.hall.lot;
            case 2:
                return now.hall.allWaiting();
            case 3:
                return now.hall.granted;
            default:
                return OTHER;
        }
    }

    public int book(int i, int what) {
        return i == NONE ? now.hall.booked : now.hall.entry(i, what);
    }

    // ---- what would come

    public int foretold(int n, int person, int what) {
        if (n < 1 || n > MOST_DAYS || !now.hall.isThere(person)) {
            return NONE;
        }
        guess.copyFrom(now.hall);
        for (int i = 0; i < n && guess.today < LAST_DAY; i++) {
            clerk.passDay(guess);
        }
        switch (what) {
            case 0:
                return guess.places[person];
            case 1:
                return guess.states[person];
            case 2:
                return guess.tears[person];
            default:
                return NONE;
        }
    }

    public int bottom(int person) {
        if (!now.hall.doesWait(person)) {
            return NONE;
        }
        guess.copyFrom(now.hall);
        // each answer leads to a greater number, so that as many as there are wants are enough
        for (int i = 0; i < WANTS && guess.doesWait(person); i++) {
            clerk.lead(guess, person);
        }
        return guess.places[person];
    }

    // ---- ways down

    public long ways(int a, int b) {
        return areWants(a, b) ? paths.count(a, b) : NONE;
    }

    public int must(int a, int b) {
        return areWants(a, b) ? paths.onAll(a, b) : NONE;
    }

    public int between(int a, int b) {
        return areWants(a, b) ? paths.onAny(a, b) : NONE;
    }

    public int heaviest(int a, int b) {
        return areWants(a, b) ? paths.mostPain(a, b) : NONE;
    }

    public int under(int top, int want) {
        return areWants(top, want) ? paths.behind(top, want) : NONE;
    }

    public int needless(int want) {
        return isWant(want) ? paths.doubled(want) : NONE;
    }

    public int shared(int a, int b) {
        return areWants(a, b) ? paths.highestOfBoth(a, b) : NONE;
    }

    public int apart(boolean many) {
        int widest = paths.widest();
        return many ? Integer.bitCount(widest) : widest;
    }

    public int chains() {
        return paths.fewestRows();
    }

    public int levels() {
        int most = 0;
        for (int want = 0; want < WANTS; want++) {
            most = Math.max(most, now.wants.depths[want] + 1);
        }
        return most;
    }

    public int asked(int wants, boolean first) {
        if (wants < 1 || wants >= WANT_SETS) {
            return NONE;
        }
        return first ? asking.best(wants) : asking.questions(wants);
    }

    public int cheap(int top, int want, boolean pain) {
        if (!areWants(top, want) || top == want || has(now.wants.hangs[top], want)) {
            return NONE;
        }
        int cut = paths.leastCut(top, want);
        return pain ? now.wants.painOf(cut) : cut;
    }

    // ---- dealings

    public boolean offers(int a, int b, boolean does) {
        if (!isPerson(a) || !isPerson(b) || a == b || has(now.offers[a], b) == does) {
            return false;
        }
        now.offers[a] ^= 1 << b;
        return true;
    }

    public int rings(boolean many) {
        int inRings = dealings.inRings();
        return many ? Integer.bitCount(inRings) : inRings;
    }

    public int ring(int person) {
        return isPerson(person) ? dealings.giver(person) : NONE;
    }

    public boolean grant(int person, int odds, int cost) {
        if (!isPerson(person) || odds < 0 || odds > ALL_ODDS || cost < 0 || cost > MOST_COST) {
            return false;
        }
        now.odds[person] = odds;
        now.costs[person] = cost;
        return true;
    }

    public long budget(int cost, boolean low) {
        if (cost < 0 || cost > MOST_BUDGET) {
            return NONE;
        }
        long upper = dealings.chance(cost);
        long lower = dealings.certain();
        long divisor = Math.max(1, greatestDivisor(upper, lower));
        return low ? lower / divisor : upper / divisor;
    }

    public int enough(int odds) {
        return odds < 1 || odds > ALL_ODDS ? NONE : dealings.leastCost(odds);
    }

    public int said(int person, int needs) {
        if (person == NONE) {
            now.saidCount = 0;
            return 0;
        }
        if (!now.hall.isThere(person) || needs < -MOST_LAW || needs > MOST_LAW) {
            return OTHER;
        }
        return now.note(person, needs);
    }

    public int whose() {
        int found = 0;
        for (int i = 0; i < TEXTS && i < now.textCount; i++) {
            if (agrees(texts[i])) {
                found |= 1 << i;
            }
        }
        return found;
    }

    private boolean agrees(Text text) {
        for (int i = 0; i < SAID && i < now.saidCount; i++) {
            if (law.saysNeed(text, now.hall, now.saidWho[i]) != now.saidNeeds[i]) {
                return false;
            }
        }
        return true;
    }

    // ---- small questions

    public int saddest() {
        int found = NONE;
        int most = 0;
        for (int i = 0; i < PERSONS && i < now.hall.count; i++) {
            if (now.hall.tears[i] > most) {
                most = now.hall.tears[i];
                found = i;
            }
        }
        return found;
    }

    public int plain() {
        int found = 0;
        for (int want = 0; want < WANTS; want++) {
            if (now.wants.hangs[want] == 0) {
                found |= 1 << want;
            }
        }
        return found;
    }

    public int loose() {
        int held = 0;
        for (int want = 0; want < WANTS; want++) {
            held |= now.wants.hangs[want];
        }
        return WANT_SETS - 1 & ~held;
    }

    public int above(int want) {
        return isWant(want) ? paths.over(want) : NONE;
    }

    public int ledger(boolean granted) {
        int many = 0;
        for (int i = 0; i < BOOK && i < now.hall.booked; i++) {
            if (now.hall.entry(i, 3) == (granted ? 1 : 0)) {
                many++;
            }
        }
        return many;
    }

    // ---- the image

    public int image() {
        kept.copyFrom(now);
        return now.hall.today;
    }

    public int back() {
        now.copyFrom(kept);
        return now.hall.today;
    }

    public int about(int what) {
        switch (what) {
            case 0:
                return now.hall.count;
            case 1:
                return now.textCount;
            case 2:
                return now.ruling;
            case 3:
                return now.stepCount;
            case 4:
                return now.saidCount;
            case 5:
                return tapeLength;
            default:
                return OTHER;
        }
    }

    // ---- what all of it uses

    private boolean isText(int text) {
        return text >= 0 && text < now.textCount && text < TEXTS;
    }

    private static boolean isWant(int want) {
        return want >= 0 && want < WANTS;
    }

    private static boolean areWants(int a, int b) {
        return isWant(a) && isWant(b);
    }

    private static boolean isPerson(int person) {
        return person >= 0 && person < PERSONS;
    }

    private static boolean has(int bits, int i) {
        return (bits >> i & 1) != 0;
    }

    private static long greatestDivisor(long a, long b) {
        // Euclid's way halves the greater one in every two turns, so that 64 are more than enough here
        for (int turn = 0; turn < 64 && b != 0; turn++) {
            long rest = a % b;
            a = b;
            b = rest;
        }
        return a;
    }

    /** The wants: their pain, what they hang on, and what follows from that. */
    private static final class Wants {
        final int[] pains = new int[WANTS];
        final int[] hangs = new int[WANTS];
        // kept beside the hangings, as laws ask for them at every answer
        final int[] lower = new int[WANTS];
        final int[] lowerCounts = new int[WANTS];
        final int[] depths = new int[WANTS];

        Wants() {
            for (int want = 0; want < WANTS; want++) {
                pains[want] = 10;
            }
        }

        void copyFrom(Wants other) {
            System.arraycopy(other.pains, 0, pains, 0, WANTS);
            System.arraycopy(other.hangs, 0, hangs, 0, WANTS);
            System.arraycopy(other.lower, 0, lower, 0, WANTS);
            System.arraycopy(other.lowerCounts, 0, lowerCounts, 0, WANTS);
            System.arraycopy(other.depths, 0, depths, 0, WANTS);
        }

        boolean tellHanging(int a, int b, boolean does) {
            if (!isWant(a) || !isWant(b) || b <= a || has(hangs[a], b) == does) {
                return false;
            }
            hangs[a] ^= 1 << b;
            settle();
            return true;
        }

        /** From the last want back, as hangings go to greater numbers: what is below is settled then. */
        private void settle() {
            for (int a = WANTS - 1; a >= 0; a--) {
                int all = hangs[a];
                int depth = 0;
                for (int b = a + 1; b < WANTS; b++) {
                    if (has(hangs[a], b)) {
                        all |= lower[b];
                        depth = Math.max(depth, depths[b] + 1);
                    }
                }
                lower[a] = all;
                lowerCounts[a] = Integer.bitCount(all);
                depths[a] = depth;
            }
        }

        /** The want and all below it. */
        int withLower(int want) {
            return isWant(want) ? 1 << want | lower[want] : 0;
        }

        int painOf(int set) {
            int sum = 0;
            for (int want = 0; want < WANTS; want++) {
                if (has(set, want)) {
                    sum += pains[want];
                }
            }
            return sum;
        }
    }

    /** What is found by following hangings. They go to greater numbers, so one pass upwards follows all. */
    private static final class Paths {
        private final Wants wants;
        private final long[] counts = new long[WANTS];
        private final int[] weights = new int[WANTS];
        private final int[] holders = new int[WANTS];
        private int tried;

        Paths(Wants wants) {
            this.wants = wants;
        }

        long count(int a, int b) {
            if (!areWants(a, b)) {
                return 0;
            }
            for (int i = 0; i < WANTS; i++) {
                counts[i] = 0;
            }
            counts[a] = 1;
            for (int i = a; i < b; i++) {
                for (int j = i + 1; j <= b; j++) {
                    if (has(wants.hangs[i], j)) {
                        counts[j] += counts[i];
                    }
                }
            }
            return counts[b];
        }

        /** The wants one comes to from one, it too, if some are never gone to. */
        private int reached(int from, int without) {
            int found = 1 << from;
            for (int want = from; want < WANTS; want++) {
                if (want >= 0 && has(found, want)) {
                    found |= wants.hangs[want] & ~without;
                }
            }
            return found;
        }

        int onAny(int a, int b) {
            int found = 0;
            for (int want = a; want <= b && isWant(want); want++) {
                if (has(wants.withLower(a), want) && has(wants.withLower(want), b)) {
                    found |= 1 << want;
                }
            }
            return found;
        }

        int onAll(int a, int b) {
            int any = onAny(a, b);
            if (any == 0) {
                return NONE;
            }
            int found = 1 << a | 1 << b;
            for (int want = a + 1; want < b; want++) {
                if (has(any, want) && !has(reached(a, 1 << want), b)) {
                    found |= 1 << want;
                }
            }
            return found;
        }

        int mostPain(int a, int b) {
            if (!areWants(a, b)) {
                return NONE;
            }
            for (int i = 0; i < WANTS; i++) {
                weights[i] = NONE;
            }
            weights[a] = 0;
            for (int i = a; i < b; i++) {
                for (int j = i + 1; j <= b; j++) {
                    if (weights[i] != NONE && has(wants.hangs[i], j)) {
                        weights[j] = Math.max(weights[j], weights[i] + wants.pains[j]);
                    }
                }
            }
            return weights[b];
        }

        int behind(int top, int want) {
            if (!isWant(top)) {
                return 0;
            }
            return top == want ? wants.lower[top] : wants.lower[top] & ~reached(top, 1 << want);
        }

        int doubled(int want) {
            if (!isWant(want)) {
                return 0;
            }
            int farther = 0;
            for (int i = 0; i < WANTS; i++) {
                if (has(wants.hangs[want], i)) {
                    farther |= wants.lower[i];
                }
            }
            return wants.hangs[want] & farther;
        }

        int highestOfBoth(int a, int b) {
            int both = wants.withLower(a) & wants.withLower(b);
            int farther = 0;
            for (int i = 0; i < WANTS; i++) {
                if (has(both, i)) {
                    farther |= wants.lower[i];
                }
            }
            return both & ~farther;
        }

        int over(int want) {
            int found = 0;
            for (int i = 0; i < WANTS; i++) {
                if (has(wants.lower[i], want)) {
                    found |= 1 << i;
                }
            }
            return found;
        }

        /** Sets are looked at from the lowest on, so that of like ones the lowest stays. */
        int widest() {
            int found = 0;
            int most = 0;
            for (int set = 0; set < WANT_SETS; set++) {
                int size = Integer.bitCount(set);
                if (size > most && liesApart(set)) {
                    found = set;
                    most = size;
                }
            }
            return found;
        }

        private boolean liesApart(int set) {
            for (int want = 0; want < WANTS; want++) {
                if (has(set, want) && (wants.lower[want] & set) != 0) {
                    return false;
                }
            }
            return true;
        }

        /** A row less for each want that gets one behind which it stands, as many as can be at once. */
        int fewestRows() {
            for (int i = 0; i < WANTS; i++) {
                holders[i] = NONE;
            }
            int joined = 0;
            for (int want = 0; want < WANTS; want++) {
                tried = 0;
                if (joins(want, 0)) {
                    joined++;
                }
            }
            return WANTS - joined;
        }

        private boolean joins(int want, int depth) {
            if (depth > WANTS || !isWant(want)) {
                return false;
            }
            for (int next = want + 1; next < WANTS; next++) {
                if (has(wants.hangs[want], next) && !has(tried, next)) {
                    tried |= 1 << next;
                    if (holders[next] == NONE || joins(holders[next], depth + 1)) {
                        holders[next] = want;
                        return true;
                    }
                }
            }
            return false;
        }

        /** Sets are looked at from the lowest on, so that of like ones the lowest stays. */
        int leastCut(int top, int want) {
            int inner = onAny(top, want) & ~(1 << top | 1 << want);
            int found = inner;
            int least = wants.painOf(inner);
            for (int set = 0; set < WANT_SETS; set++) {
                if ((set & ~inner) == 0) {
                    int pain = wants.painOf(set);
                    boolean better = pain < least
                            || pain == least && Integer.bitCount(set) < Integer.bitCount(found);
                    if (better && !has(reached(top, set), want)) {
                        found = set;
                        least = pain;
                    }
                }
            }
            return found;
        }
    }

    /** The fewest questions that tell which of some wants it is. */
    private static final class Asking {
        private final Wants wants;
        // 0: not found yet; what was found stays till other wants lie below
        private final byte[] found = new byte[WANT_SETS];
        private final int[] foundFor = new int[WANTS];

        Asking(Wants wants) {
            this.wants = wants;
        }

        int questions(int set) {
            forgetIfChanged();
            return fewest(set, 0);
        }

        int best(int set) {
            forgetIfChanged();
            int needed = fewest(set, 0);
            for (int want = 0; want < WANTS && needed > 0; want++) {
                if (askingFirst(set, want, 0) == needed) {
                    return want;
                }
            }
            return NONE;
        }

        private void forgetIfChanged() {
            boolean changed = false;
            for (int want = 0; want < WANTS; want++) {
                changed |= foundFor[want] != wants.lower[want];
                foundFor[want] = wants.lower[want];
            }
            for (int set = 0; changed && set < WANT_SETS; set++) {
                found[set] = 0;
            }
        }

        /** A question that parts the set makes both parts smaller, so that no more than 12 lie in one another. */
        private int fewest(int set, int depth) {
            if (set < 0 || set >= WANT_SETS || depth > WANTS || Integer.bitCount(set) < 2) {
                return 0;
            }
            if (found[set] == 0) {
                int bound = atLeast(set);
                int least = WANTS;
                for (int want = 0; want < WANTS && least > bound; want++) {
                    least = Math.min(least, askingFirst(set, want, depth));
                }
                found[set] = (byte) least;
            }
            return found[set];
        }

        /**
         * With bad luck a question leaves half of them or more, and takes away no more than the best question
         * would take from the whole set. This spares looking at most of the sets.
         */
        private int atLeast(int set) {
            int size = Integer.bitCount(set);
            int most = 1;
            for (int want = 0; want < WANTS; want++) {
                int yes = Integer.bitCount(set & wants.withLower(want));
                most = Math.max(most, Math.min(yes, size - yes));
            }
            int byHalves = 0;
            while (byHalves < WANTS && 1 << byHalves < size) {
                byHalves++;
            }
            return Math.max(byHalves, (size - 2 + most) / most);
        }

        private int askingFirst(int set, int want, int depth) {
            int yes = set & wants.withLower(want);
            if (yes == 0 || yes == set) {
                return WANTS;
            }
            return 1 + Math.max(fewest(yes, depth + 1), fewest(set & ~yes, depth + 1));
        }
    }

    /** The persons, the day, the lot and the book: what a step changes, and what taking it back brings again. */
    private static final class Hall {
        static final int FIRST_LOT = 251;

        final int[] places = new int[PERSONS];
        final int[] states = new int[PERSONS];
        final int[] tears = new int[PERSONS];
        final int[] purses = new int[PERSONS];
        final int[] answers = new int[PERSONS];
        final int[] dropped = new int[PERSONS];
        // an entry in one number, as each of the latest steps holds a book of its own
        private final int[] entries = new int[BOOK];
        int booked;
        int count;
        int granted;
        int today;
        int lot = FIRST_LOT;

        void copyFrom(Hall other) {
            System.arraycopy(other.places, 0, places, 0, PERSONS);
            System.arraycopy(other.states, 0, states, 0, PERSONS);
            System.arraycopy(other.tears, 0, tears, 0, PERSONS);
            System.arraycopy(other.purses, 0, purses, 0, PERSONS);
            System.arraycopy(other.answers, 0, answers, 0, PERSONS);
            System.arraycopy(other.dropped, 0, dropped, 0, PERSONS);
            System.arraycopy(other.entries, 0, entries, 0, BOOK);
            booked = other.booked;
            count = other.count;
            granted = other.granted;
            today = other.today;
            lot = other.lot;
        }

        boolean isThere(int person) {
            return person >= 0 && person < count && person < PERSONS;
        }

        boolean doesWait(int person) {
            return isThere(person) && states[person] == WAITS;
        }

        int allWaiting() {
            int found = 0;
            for (int i = 0; i < PERSONS; i++) {
                if (doesWait(i)) {
                    found |= 1 << i;
                }
            }
            return found;
        }

        void seat(int person, int want, int purse) {
            if (isPerson(person)) {
                places[person] = want;
                states[person] = WAITS;
                tears[person] = 0;
                purses[person] = purse;
                answers[person] = 0;
                dropped[person] = 0;
            }
        }

        void weep(int person, int pain) {
            if (isPerson(person)) {
                tears[person] = Math.min(MOST_TEARS, tears[person] + pain);
            }
        }

        /** What it was before: the draw. The lot is another one then. */
        int drawLot() {
            int drawn = lot;
            lot = (lot * 491 + 379) % 30677;
            return drawn;
        }

        void dismiss(int person, boolean isGranted) {
            if (!isPerson(person)) {
                return;
            }
            states[person] = isGranted ? GRANTED : SIDE_DOOR;
            if (isGranted) {
                granted = Math.min(MOST_GRANTED, granted + 1);
                purses[person] = Math.min(MOST_PURSE, purses[person] + 10);
            }
            if (booked >= BOOK) {
                System.arraycopy(entries, 1, entries, 0, BOOK - 1);
                booked = BOOK - 1;
            }
            if (booked >= 0) {
                entries[booked] = ((today * PERSONS + person) * WANTS + places[person]) * 2 + (isGranted ? 1 : 0);
                booked++;
            }
        }

        int entry(int i, int what) {
            if (i < 0 || i >= booked || i >= BOOK) {
                return OTHER;
            }
            int entry = entries[i];
            switch (what) {
                case 0:
                    return entry / (2 * WANTS * PERSONS);
                case 1:
                    return entry / (2 * WANTS) % PERSONS;
                case 2:
                    return entry / 2 % WANTS;
                case 3:
                    return entry % 2;
                default:
                    return OTHER;
            }
        }
    }

    /** All that an image holds. */
    private static final class Board {
        final Wants wants = new Wants();
        final Hall hall = new Hall();
        private final Hall[] steps = new Hall[STEPS];
        int stepCount;
        // the texts themselves stand aside: none is ever changed that an image counts
        int textCount;
        int ruling = NONE;
        final int[] offers = new int[PERSONS];
        final int[] odds = new int[PERSONS];
        final int[] costs = new int[PERSONS];
        final int[] saidWho = new int[SAID];
        final int[] saidNeeds = new int[SAID];
        int saidCount;

        Board() {
            for (int i = 0; i < STEPS; i++) {
                steps[i] = new Hall();
            }
            for (int i = 0; i < PERSONS; i++) {
                odds[i] = 5;
                costs[i] = 10;
            }
        }

        void copyFrom(Board other) {
            wants.copyFrom(other.wants);
            hall.copyFrom(other.hall);
            for (int i = 0; i < STEPS && i < other.stepCount; i++) {
                steps[i].copyFrom(other.steps[i]);
            }
            stepCount = other.stepCount;
            textCount = other.textCount;
            ruling = other.ruling;
            System.arraycopy(other.offers, 0, offers, 0, PERSONS);
            System.arraycopy(other.odds, 0, odds, 0, PERSONS);
            System.arraycopy(other.costs, 0, costs, 0, PERSONS);
            System.arraycopy(other.saidWho, 0, saidWho, 0, SAID);
            System.arraycopy(other.saidNeeds, 0, saidNeeds, 0, SAID);
            saidCount = other.saidCount;
        }

        /** Put into the steps too: whichever of them is taken back, the person is as told then. */
        int admit(int want, int purse) {
            int number = hall.count;
            if (!isPerson(number)) {
                return NONE;
            }
            hall.seat(number, want, purse);
            hall.count = number + 1;
            for (int i = 0; i < STEPS && i < stepCount; i++) {
                steps[i].seat(number, want, purse);
                steps[i].count = number + 1;
            }
            return number;
        }

        void keepStep() {
            if (stepCount >= STEPS) {
                Hall eldest = steps[0];
                for (int i = 1; i < STEPS; i++) {
                    steps[i - 1] = steps[i];
                }
                steps[STEPS - 1] = eldest;
                stepCount = STEPS - 1;
            }
            if (stepCount >= 0) {
                steps[stepCount].copyFrom(hall);
                stepCount++;
            }
        }

        boolean takeBack() {
            if (stepCount < 1 || stepCount > STEPS) {
                return false;
            }
            stepCount--;
            hall.copyFrom(steps[stepCount]);
            return true;
        }

        int note(int person, int needs) {
            if (saidCount < 0 || saidCount >= SAID) {
                return OTHER;
            }
            saidWho[saidCount] = person;
            saidNeeds[saidCount] = needs;
            saidCount++;
            return saidCount;
        }
    }

    /** What is done to persons, in the hall or in one that is only thought of. */
    private static final class Clerk {
        private final Board board;
        private final Text[] texts;
        private final Law law;

        Clerk(Board board, Text[] texts, Law law) {
            this.board = board;
            this.texts = texts;
            this.law = law;
        }

        /** Null, if none rules. */
        Text rulingText() {
            int ruling = board.ruling;
            return ruling >= 0 && ruling < texts.length ? texts[ruling] : null;
        }

        int nextPlace(Hall hall, int person) {
            if (!hall.isThere(person) || !isWant(hall.places[person])) {
                return NONE;
            }
            Text text = rulingText();
            int open = board.wants.hangs[hall.places[person]] & ~hall.dropped[person];
            int found = NONE;
            int most = NOT_TOLD;
            for (int want = 0; want < WANTS; want++) {
                if (has(open, want)) {
                    int says = law.saysNext(text, hall, person, want);
                    if (says > most) {
                        most = says;
                        found = want;
                    }
                }
            }
            return found;
        }

        /** One that waits is asked: the want it is at then, or that it is gone. */
        int lead(Hall hall, int person) {
            if (!hall.doesWait(person)) {
                return NONE;
            }
            int next = nextPlace(hall, person);
            if (!isWant(next)) {
                hall.dismiss(person, law.saysNeed(rulingText(), hall, person) > 0);
                return GONE;
            }
            hall.places[person] = next;
            hall.weep(person, board.wants.pains[next]);
            hall.answers[person] = Math.min(MOST_ANSWERS, hall.answers[person] + 1);
            return next;
        }

        boolean canDrop(Hall hall, int person, int want) {
            return hall.doesWait(person) && isWant(want)
                    && hall.places[person] != want && !has(hall.dropped[person], want);
        }

        void drop(Hall hall, int person, int want) {
            if (isPerson(person) && isWant(want)) {
                hall.dropped[person] |= 1 << want;
                hall.weep(person, board.wants.pains[want]);
            }
        }

        boolean canReturn(Hall hall, int person, int want) {
            return hall.isThere(person) && hall.states[person] != WAITS && isWant(want);
        }

        /** How many are granted in it. */
        int passDay(Hall hall) {
            int many = 0;
            for (int i = 0; i < PERSONS; i++) {
                if (hall.doesWait(i) && hall.drawLot() % 10 < 6) {
                    lead(hall, i);
                    if (hall.states[i] == GRANTED) {
                        many++;
                    }
                }
            }
            hall.today++;
            return many;
        }

        /** One draw of the years. */
        void passDraw(Hall hall) {
            int drawn = hall.drawLot();
            int person = hall.count > 0 ? drawn % hall.count : NONE;
            int want = drawn / 6 % WANTS;
            switch (drawn % 6) {
                case 0:
                case 1:
                    lead(hall, person);
                    break;
                case 2:
                    if (canDrop(hall, person, want)) {
                        drop(hall, person, want);
                    }
                    break;
                case 3:
                    if (canReturn(hall, person, want)) {
                        hall.seat(person, want, hall.purses[person]);
                    }
                    break;
                default:
                    if (hall.today < LAST_DAY) {
                        passDay(hall);
                    }
                    break;
            }
        }
    }

    /** Rings of offers, and budgets by odds. */
    private static final class Dealings {
        private final Board board;
        private final int[] givers = new int[PERSONS];
        private final int[] best = new int[PERSONS];
        private int most;

        Dealings(Board board) {
            this.board = board;
        }

        int inRings() {
            seekRings();
            int found = 0;
            for (int i = 0; i < PERSONS; i++) {
                if (best[i] != NONE) {
                    found |= 1 << i;
                }
            }
            return found;
        }

        int giver(int person) {
            seekRings();
            return isPerson(person) ? best[person] : NONE;
        }

        private void seekRings() {
            for (int i = 0; i < PERSONS; i++) {
                givers[i] = NONE;
                best[i] = NONE;
            }
            most = 0;
            place(0, 0);
        }

        /**
         * Who stands lower than p is settled, so that p's ring, if it gets one, is of persons above it.
         * The depth is p: a person is settled at each level.
         */
        private void place(int p, int many) {
            if (p < 0 || p >= PERSONS) {
                weigh(many);
                return;
            }
            if (givers[p] == NONE) {
                for (int q = p + 1; q < PERSONS; q++) {
                    if (givers[q] == NONE && has(board.offers[p], q)) {
                        placeWith(p, q, many);
                    }
                }
            }
            place(p + 1, many);
        }

        private void placeWith(int p, int q, int many) {
            if (!isPerson(p) || !isPerson(q)) {
                return;
            }
            givers[p] = q;
            if (has(board.offers[q], p)) {
                givers[q] = p;
                place(p + 1, many + 2);
            }
            for (int r = p + 1; r < PERSONS; r++) {
                if (r != q && givers[r] == NONE && has(board.offers[q], r) && has(board.offers[r], p)) {
                    givers[q] = r;
                    givers[r] = p;
                    place(p + 1, many + 3);
                    givers[r] = NONE;
                }
            }
            givers[q] = NONE;
            givers[p] = NONE;
        }

        private void weigh(int many) {
            if (many > most || many == most && isLower()) {
                System.arraycopy(givers, 0, best, 0, PERSONS);
                most = many;
            }
        }

        /** Whether the first person that gets from another one now gets from a lower one; nobody is last. */
        private boolean isLower() {
            for (int i = 0; i < PERSONS; i++) {
                if (givers[i] != best[i]) {
                    return best[i] == NONE || givers[i] != NONE && givers[i] < best[i];
                }
            }
            return false;
        }

        /** What stands for: it is certain. */
        long certain() {
            long all = 1;
            for (int i = 0; i < PERSONS && i < board.hall.count; i++) {
                all *= ALL_ODDS;
            }
            return all;
        }

        /** Out of what is certain: that those granted cost so much or less. */
        long chance(int cost) {
            long sum = 0;
            for (int set = 0; set < 1 << PERSONS; set++) {
                if (costOf(set) <= cost) {
                    sum += weightOf(set);
                }
            }
            return sum;
        }

        int leastCost(int odds) {
            int least = MOST_BUDGET;
            // the odds are more only at a cost that some set has
            for (int set = 0; set < 1 << PERSONS; set++) {
                int cost = costOf(set);
                if (cost < least && chance(cost) * ALL_ODDS >= certain() * odds) {
                    least = cost;
                }
            }
            return least;
        }

        private int costOf(int set) {
            int sum = 0;
            for (int i = 0; i < PERSONS; i++) {
                if (has(set, i)) {
                    sum += board.costs[i];
                }
            }
            return sum;
        }

        /** Out of what is certain: that just these are granted; nothing, if one of them isn't there. */
        private long weightOf(int set) {
            long weight = 1;
            for (int i = 0; i < PERSONS; i++) {
                if (i < board.hall.count) {
                    weight *= has(set, i) ? board.odds[i] : ALL_ODDS - board.odds[i];
                } else if (has(set, i)) {
                    weight = 0;
                }
            }
            return weight;
        }
    }

    /** A text that was read: its clauses, and its laws as steps for a stack of numbers. */
    private static final class Text {
        final int[] kinds = new int[CLAUSES];
        final int[] firsts = new int[CLAUSES];
        final int[] seconds = new int[CLAUSES];
        int clauses;
        // a step comes from a token of its own, so that there are never more than bytes
        final int[] steps = new int[TAPE];
        final int[] values = new int[TAPE];
        int size;
        int tellsFrom;
        int tellsTo;
        int needsFrom;
        int needsTo;

        void clear() {
            clauses = 0;
            size = 0;
            tellsFrom = 0;
            tellsTo = 0;
            needsFrom = 0;
            needsTo = 0;
        }

        boolean addClause(int kind, int first, int second) {
            if (clauses < 0 || clauses >= CLAUSES) {
                return false;
            }
            kinds[clauses] = kind;
            firsts[clauses] = first;
            seconds[clauses] = second;
            clauses++;
            return true;
        }

        boolean addStep(int step, int value) {
            if (size < 0 || size >= TAPE) {
                return false;
            }
            steps[size] = step;
            values[size] = value;
            size++;
            return true;
        }

        void leadHere(int step) {
            if (step >= 0 && step < TAPE) {
                values[step] = size;
            }
        }

        boolean hasLaw(int kind) {
            return kind == Tokens.TELLS && tellsTo > 0 || kind == Tokens.NEEDS && needsTo > 0;
        }

        void setLaw(int kind, int from) {
            if (kind == Tokens.TELLS) {
                tellsFrom = from;
                tellsTo = size;
            } else {
                needsFrom = from;
                needsTo = size;
            }
        }
    }

    /** What the laws say. */
    private static final class Law {
        private static final int MOST = 1000000;
        static final int NAMES = 10;
        static final int NEXT = 7;

        private final Wants wants;
        private final int[] names = new int[NAMES];
        private final int[] stack = new int[TAPE];

        Law(Wants wants) {
            this.wants = wants;
        }

        int saysNext(Text text, Hall hall, int person, int next) {
            if (!isWant(next) || !hall.isThere(person)) {
                return 0;
            }
            if (text == null || !text.hasLaw(Tokens.TELLS)) {
                return wants.pains[next];
            }
            load(hall, person);
            names[NEXT] = next;
            names[NEXT + 1] = wants.pains[next];
            names[NEXT + 2] = wants.depths[next];
            return Math.max(-MOST_LAW, Math.min(MOST_LAW, run(text, text.tellsFrom, text.tellsTo)));
        }

        int saysNeed(Text text, Hall hall, int person) {
            if (!hall.isThere(person)) {
                return 0;
            }
            if (text == null || !text.hasLaw(Tokens.NEEDS)) {
                return hall.tears[person] - 2 * hall.purses[person];
            }
            load(hall, person);
            return Math.max(-MOST_LAW, Math.min(MOST_LAW, run(text, text.needsFrom, text.needsTo)));
        }

        private void load(Hall hall, int person) {
            if (isPerson(person)) {
                names[0] = hall.today;
                names[1] = person;
                names[2] = hall.tears[person];
                names[3] = hall.purses[person];
                names[4] = hall.answers[person];
                names[5] = hall.places[person];
                names[6] = Integer.bitCount(hall.dropped[person]);
            }
        }

        /** Jumps lead onwards only. */
        private int run(Text text, int from, int to) {
            int top = 0;
            for (int at = Math.max(0, from); at < to && at < TAPE; at++) {
                int step = text.steps[at];
                int value = text.values[at];
                if (step == Tokens.NUMBER || step == Tokens.NAME) {
                    if (top < TAPE) {
                        stack[top] = step == Tokens.NUMBER ? value : nameAt(value);
                        top++;
                    }
                } else if (step == Tokens.ELSE) {
                    at = Math.max(at, value - 1);
                } else if (step == Tokens.THEN) {
                    top = Math.max(0, top - 1);
                    if (stack[top] == 0) {
                        at = Math.max(at, value - 1);
                    }
                } else if (step == Tokens.NEGATE || step == Tokens.NOT || step == Tokens.BELOW) {
                    if (top > 0) {
                        stack[top - 1] = changed(step, stack[top - 1]);
                    }
                } else if (top > 1) {
                    long whole = joined(step, stack[top - 2], stack[top - 1]);
                    stack[top - 2] = (int) Math.max(-MOST, Math.min(MOST, whole));
                    top--;
                }
            }
            return stack[0];
        }

        private int nameAt(int i) {
            return i >= 0 && i < NAMES ? names[i] : 0;
        }

        private int changed(int step, int a) {
            if (step == Tokens.NEGATE) {
                return -a;
            }
            if (step == Tokens.NOT) {
                return a == 0 ? 1 : 0;
            }
            return a >= 0 && a < WANTS ? wants.lowerCounts[a] : 0;
        }

        /** Long, as a product of two numbers can be too great for less; the caller cuts it. */
        private static long joined(int step, long a, long b) {
            switch (step) {
                case Tokens.PLUS:
                    return a + b;
                case Tokens.MINUS:
                    return a - b;
                case Tokens.TIMES:
                    return a * b;
                case Tokens.OVER:
                    return b == 0 ? 0 : a / b;
                case Tokens.WITHIN:
                    return b <= 0 ? 0 : a > b ? b : a < -b ? -b : a;
                case Tokens.LESS:
                    return a < b ? 1 : 0;
                case Tokens.AT_MOST:
                    return a <= b ? 1 : 0;
                case Tokens.MORE:
                    return a > b ? 1 : 0;
                case Tokens.AT_LEAST:
                    return a >= b ? 1 : 0;
                case Tokens.LIKE:
                    return a == b ? 1 : 0;
                case Tokens.UNLIKE:
                    return a != b ? 1 : 0;
                case Tokens.AND:
                    return a != 0 && b != 0 ? 1 : 0;
                default:
                    return a != 0 || b != 0 ? 1 : 0;
            }
        }
    }

    /** The tape, parted into tokens. */
    private static final class Tokens {
        static final int END = 0;
        static final int WRONG = 1;
        static final int NUMBER = 2;
        static final int LESS = 3;
        static final int AT_MOST = 4;
        static final int MORE = 5;
        static final int AT_LEAST = 6;
        static final int LIKE = 7;
        static final int UNLIKE = 8;
        static final int PLUS = 9;
        static final int MINUS = 10;
        static final int TIMES = 11;
        static final int OVER = 12;
        static final int LEFT = 13;
        static final int RIGHT = 14;
        static final int CLOSE = 15;
        static final int TELLS = 16;
        static final int NEEDS = 17;
        static final int PAIN = 18;
        static final int OF = 19;
        static final int HANG = 20;
        static final int ON = 21;
        static final int PERSON = 22;
        static final int PURSE = 23;
        static final int ASK = 24;
        static final int GIVE = 25;
        static final int BY = 26;
        static final int AGAIN = 27;
        static final int DAY = 28;
        static final int WITHIN = 29;
        static final int BELOW = 30;
        static final int IF = 31;
        static final int THEN = 32;
        static final int ELSE = 33;
        static final int STOP = 34;
        static final int OR = 35;
        static final int AND = 36;
        static final int NOT = 37;
        static final int WHO = 38;
        static final int TEARS = 39;
        static final int ANSWERS = 40;
        static final int WANT = 41;
        static final int GIVEN = 42;
        static final int NEXT = 43;
        static final int DEPTH = 44;
        // steps of laws that no token of their own stands for
        static final int NAME = 45;
        static final int NEGATE = 46;

        static final int MOST_NUMBER = 9999;

        private final int[] kinds = new int[TAPE + 1];
        private final int[] places = new int[TAPE + 1];
        private final int[] numbers = new int[TAPE + 1];
        private int count;

        void scan(int[] tape, int length) {
            count = 0;
            int at = 0;
            for (int turn = 0; turn < TAPE && at < length && at < tape.length; turn++) {
                boolean blank = tape[at] == ' ' || tape[at] == '\n';
                at += blank ? 1 : scanOne(tape, at, Math.min(length, tape.length));
            }
            put(END, length, 0);
        }

        int kindAt(int i) {
            return i >= 0 && i < count && i <= TAPE ? kinds[i] : END;
        }

        int placeAt(int i) {
            return i >= 0 && i < count && i <= TAPE ? places[i] : NONE;
        }

        int numberAt(int i) {
            return i >= 0 && i < count && i <= TAPE ? numbers[i] : 0;
        }

        private void put(int kind, int place, int number) {
            if (count >= 0 && count <= TAPE) {
                kinds[count] = kind;
                places[count] = place;
                numbers[count] = number;
                count++;
            }
        }

        /** How many bytes it has. */
        private int scanOne(int[] tape, int at, int length) {
            int first = tape[at];
            int end = at + 1;
            if (isLetter(first)) {
                while (end < length && isLetter(tape[end])) {
                    end++;
                }
                put(wordKind(tape, at, end), at, 0);
            } else if (isDigit(first)) {
                int number = first - '0';
                while (end < length && isDigit(tape[end])) {
                    // one more than the most stands for all above it
                    number = Math.min(MOST_NUMBER + 1, number * 10 + tape[end] - '0');
                    end++;
                }
                put(NUMBER, at, number);
            } else {
                boolean two = (first == '<' || first == '>') && end < length && tape[end] == '=';
                put(two ? signKind(first) + 1 : signKind(first), at, 0);
                end += two ? 1 : 0;
            }
            return end - at;
        }

        private static boolean isLetter(int sign) {
            return sign >= 'a' && sign <= 'z' || sign >= 'A' && sign <= 'Z';
        }

        private static boolean isDigit(int sign) {
            return sign >= '0' && sign <= '9';
        }

        private static int signKind(int sign) {
            switch (sign) {
                case '<':
                    return LESS;
                case '>':
                    return MORE;
                case '=':
                    return LIKE;
                case '#':
                    return UNLIKE;
                case '+':
                    return PLUS;
                case '-':
                    return MINUS;
                case '*':
                    return TIMES;
                case '/':
                    return OVER;
                case '(':
                    return LEFT;
                case ')':
                    return RIGHT;
                case ';':
                    return CLOSE;
                default:
                    return WRONG;
            }
        }

        private static int wordKind(int[] tape, int from, int to) {
            switch (to - from) {
                case 2:
                    return twoLetters(tape, from);
                case 3:
                    return threeLetters(tape, from);
                case 4:
                    return fourLetters(tape, from);
                case 5:
                    return fiveLetters(tape, from);
                case 6:
                    return spells(tape, from, "person") ? PERSON : spells(tape, from, "within") ? WITHIN : WRONG;
                case 7:
                    return spells(tape, from, "answers") ? ANSWERS : WRONG;
                default:
                    return WRONG;
            }
        }

        private static int twoLetters(int[] tape, int from) {
            if (spells(tape, from, "of")) {
                return OF;
            }
            if (spells(tape, from, "on")) {
                return ON;
            }
            if (spells(tape, from, "by")) {
                return BY;
            }
            if (spells(tape, from, "if")) {
                return IF;
            }
            return spells(tape, from, "or") ? OR : WRONG;
        }

        private static int threeLetters(int[] tape, int from) {
            if (spells(tape, from, "ask")) {
                return ASK;
            }
            if (spells(tape, from, "day")) {
                return DAY;
            }
            if (spells(tape, from, "end")) {
                return STOP;
            }
            if (spells(tape, from, "and")) {
                return AND;
            }
            if (spells(tape, from, "not")) {
                return NOT;
            }
            return spells(tape, from, "who") ? WHO : WRONG;
        }

        private static int fourLetters(int[] tape, int from) {
            if (spells(tape, from, "pain")) {
                return PAIN;
            }
            if (spells(tape, from, "hang")) {
                return HANG;
            }
            if (spells(tape, from, "give")) {
                return GIVE;
            }
            if (spells(tape, from, "then")) {
                return THEN;
            }
            if (spells(tape, from, "else")) {
                return ELSE;
            }
            if (spells(tape, from, "want")) {
                return WANT;
            }
            return spells(tape, from, "next") ? NEXT : WRONG;
        }

        private static int fiveLetters(int[] tape, int from) {
            if (spells(tape, from, "tells")) {
                return TELLS;
            }
            if (spells(tape, from, "needs")) {
                return NEEDS;
            }
            if (spells(tape, from, "purse")) {
                return PURSE;
            }
            if (spells(tape, from, "again")) {
                return AGAIN;
            }
            if (spells(tape, from, "below")) {
                return BELOW;
            }
            if (spells(tape, from, "tears")) {
                return TEARS;
            }
            if (spells(tape, from, "given")) {
                return GIVEN;
            }
            return spells(tape, from, "depth") ? DEPTH : WRONG;
        }

        private static boolean spells(int[] tape, int from, String word) {
            if (from < 0 || from + word.length() > tape.length) {
                return false;
            }
            for (int i = 0; i < word.length(); i++) {
                if (tape[from + i] != word.charAt(i)) {
                    return false;
                }
            }
            return true;
        }
    }

    /** Reads a tape into a text, or finds its first fault. */
    private static final class Reader {
        private static final int CANT_STAND = 1;
        private static final int NOT_ONE_TOLD = 2;
        private static final int TOO_DEEP = 3;
        private static final int SECOND_LAW = 4;
        private static final int NOT_OF_LAW = 5;
        private static final int TOO_MANY = 6;
        private static final int MOST_OPEN = 8;

        private final Tokens tokens = new Tokens();
        private Text out;
        private int at;
        private int open;
        private int lawRead;
        private int taken;
        boolean hasRead;
        int fault;
        int place;

        Reader(Text first) {
            out = first;
        }

        void read(int[] tape, int length, Text into) {
            tokens.scan(tape, length);
            into.clear();
            out = into;
            at = 0;
            open = 0;
            hasRead = true;
            fault = 0;
            place = NONE;
            // the turn behind the last clause finds the one that is too many
            for (int turn = 0; turn <= CLAUSES && fault == 0 && kind() != Tokens.END; turn++) {
                readClause();
            }
        }

        private int kind() {
            return tokens.kindAt(at);
        }

        private boolean fail(int what) {
            fault = what;
            place = tokens.placeAt(at);
            return false;
        }

        private boolean take(int kind) {
            if (kind() != kind) {
                return fail(CANT_STAND);
            }
            at++;
            return true;
        }

        private boolean takeNumber(int least, int most) {
            if (kind() != Tokens.NUMBER) {
                return fail(CANT_STAND);
            }
            taken = tokens.numberAt(at);
            if (taken < least || taken > most) {
                return fail(NOT_ONE_TOLD);
            }
            at++;
            return true;
        }

        private boolean readClause() {
            int kind = kind();
            boolean isLaw = kind == Tokens.TELLS || kind == Tokens.NEEDS;
            if (!isLaw && mostFirst(kind) == NONE) {
                return fail(CANT_STAND);
            }
            if (out.hasLaw(kind)) {
                return fail(SECOND_LAW);
            }
            if (out.clauses >= CLAUSES) {
                return fail(TOO_MANY);
            }
            at++;
            return isLaw ? readLaw(kind) : readDeed(kind);
        }

        private boolean readLaw(int kind) {
            int from = out.size;
            lawRead = kind;
            if (!readSum() || !take(Tokens.CLOSE)) {
                return false;
            }
            out.setLaw(kind, from);
            return out.addClause(kind, 0, 0);
        }

        private boolean readDeed(int kind) {
            if (!takeNumber(kind == Tokens.DAY ? 1 : 0, mostFirst(kind))) {
                return false;
            }
            int first = taken;
            int second = 0;
            int link = linkOf(kind);
            if (link != Tokens.END) {
                if (!take(link) || !takeNumber(0, mostSecond(kind))) {
                    return false;
                }
                second = taken;
            }
            return take(Tokens.CLOSE) && out.addClause(kind, first, second);
        }

        /** NONE for what begins no such clause. */
        private static int mostFirst(int kind) {
            switch (kind) {
                case Tokens.PAIN:
                    return MOST_PAIN;
                case Tokens.HANG:
                case Tokens.PERSON:
                case Tokens.GIVE:
                case Tokens.AGAIN:
                    return WANTS - 1;
                case Tokens.ASK:
                    return PERSONS - 1;
                case Tokens.DAY:
                    return MOST_DAYS;
                default:
                    return NONE;
            }
        }

        /** END, if there is no second number. */
        private static int linkOf(int kind) {
            switch (kind) {
                case Tokens.PAIN:
                    return Tokens.OF;
                case Tokens.HANG:
                    return Tokens.ON;
                case Tokens.PERSON:
                    return Tokens.PURSE;
                case Tokens.GIVE:
                case Tokens.AGAIN:
                    return Tokens.BY;
                default:
                    return Tokens.END;
            }
        }

        private static int mostSecond(int kind) {
            switch (kind) {
                case Tokens.PAIN:
                case Tokens.HANG:
                    return WANTS - 1;
                case Tokens.PERSON:
                    return MOST_PURSE;
                default:
                    return PERSONS - 1;
            }
        }

        /** Every way from here back to here goes through it, so that a law can't go deeper than that allows. */
        private boolean enter() {
            if (open >= MOST_OPEN) {
                return fail(TOO_DEEP);
            }
            open++;
            at++;
            return true;
        }

        private boolean leave() {
            open--;
            return true;
        }

        private boolean readSum() {
            if (!readProduct()) {
                return false;
            }
            for (int i = 0; i < TAPE && (kind() == Tokens.PLUS || kind() == Tokens.MINUS); i++) {
                int sign = kind();
                at++;
                if (!readProduct() || !out.addStep(sign, 0)) {
                    return false;
                }
            }
            return true;
        }

        private boolean readProduct() {
            if (!readOne()) {
                return false;
            }
            for (int i = 0; i < TAPE && (kind() == Tokens.TIMES || kind() == Tokens.OVER); i++) {
                int sign = kind();
                at++;
                if (!readOne() || !out.addStep(sign, 0)) {
                    return false;
                }
            }
            return true;
        }

        private boolean readOne() {
            switch (kind()) {
                case Tokens.NUMBER:
                    return takeNumber(0, Tokens.MOST_NUMBER) && out.addStep(Tokens.NUMBER, taken);
                case Tokens.LEFT:
                    return enter() && readSum() && take(Tokens.RIGHT) && leave();
                case Tokens.MINUS:
                    return enter() && readOne() && out.addStep(Tokens.NEGATE, 0) && leave();
                case Tokens.WITHIN:
                    return enter() && readOne() && take(Tokens.OF) && readOne()
                            && out.addStep(Tokens.WITHIN, 0) && leave();
                case Tokens.BELOW:
                    return enter() && readOne() && out.addStep(Tokens.BELOW, 0) && leave();
                case Tokens.IF:
                    return readChoice();
                default:
                    return readName();
            }
        }

        private boolean readName() {
            int name = nameOf(kind());
            if (name == NONE) {
                return fail(CANT_STAND);
            }
            if (name >= Law.NEXT && lawRead != Tokens.TELLS) {
                return fail(NOT_OF_LAW);
            }
            at++;
            return out.addStep(Tokens.NAME, name);
        }

        /** In the order in which a law loads them; those that only one law has come last. */
        private static int nameOf(int kind) {
            switch (kind) {
                case Tokens.DAY:
                    return 0;
                case Tokens.WHO:
                    return 1;
                case Tokens.TEARS:
                    return 2;
                case Tokens.PURSE:
                    return 3;
                case Tokens.ANSWERS:
                    return 4;
                case Tokens.WANT:
                    return 5;
                case Tokens.GIVEN:
                    return 6;
                case Tokens.NEXT:
                    return Law.NEXT;
                case Tokens.PAIN:
                    return Law.NEXT + 1;
                case Tokens.DEPTH:
                    return Law.NEXT + 2;
                default:
                    return NONE;
            }
        }

        private boolean readChoice() {
            if (!enter() || !readEither() || !take(Tokens.THEN)) {
                return false;
            }
            int otherwise = out.size;
            if (!out.addStep(Tokens.THEN, 0) || !readSum() || !take(Tokens.ELSE)) {
                return false;
            }
            int onwards = out.size;
            if (!out.addStep(Tokens.ELSE, 0)) {
                return false;
            }
            out.leadHere(otherwise);
            if (!readSum() || !take(Tokens.STOP)) {
                return false;
            }
            out.leadHere(onwards);
            return leave();
        }

        private boolean readEither() {
            if (!readBoth()) {
                return false;
            }
            for (int i = 0; i < TAPE && kind() == Tokens.OR; i++) {
                at++;
                if (!readBoth() || !out.addStep(Tokens.OR, 0)) {
                    return false;
                }
            }
            return true;
        }

        private boolean readBoth() {
            if (!readAsk()) {
                return false;
            }
            for (int i = 0; i < TAPE && kind() == Tokens.AND; i++) {
                at++;
                if (!readAsk() || !out.addStep(Tokens.AND, 0)) {
                    return false;
                }
            }
            return true;
        }

        private boolean readAsk() {
            if (kind() == Tokens.NOT) {
                return enter() && readAsk() && out.addStep(Tokens.NOT, 0) && leave();
            }
            if (!readSum()) {
                return false;
            }
            int sign = kind();
            if (sign < Tokens.LESS || sign > Tokens.UNLIKE) {
                return fail(CANT_STAND);
            }
            at++;
            return readSum() && out.addStep(sign, 0);
        }
    }
}
