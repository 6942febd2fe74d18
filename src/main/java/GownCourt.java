import java.util.Arrays;

/** A court of a city's laws on dress; the promises of its calls stand in DOC.md. */
public final class GownCourt {
    public static final int NONE = -1;
    public static final int RANGE = -2;
    public static final int FULL = -3;
    public static final int STATE = -4;

    private static final int NO_SUCH = -9;
    private static final int LAST_DAY = 9999;
    private static final int MOST = 9999;
    private static final int PEOPLE = 30;
    private static final int TOP_RANK = 9;
    private static final int FIRST_RANK = 5;
    private static final int MOST_RANK_CHANGES = 12;
    private static final int MOST_FEASTS = 20;
    private static final int MOST_WEDDINGS = 4;
    private static final int MOST_GOWNS = 40;
    private static final int MOST_LIKES = 30;
    private static final int MOST_ACTS = 12;
    private static final int MOST_RULES = 12;
    private static final int MOST_LETTERS = 60;
    private static final int TAPE_BYTES = 800;
    private static final int FEED_BYTES = 20;
    private static final int MOST_WORN_DAYS = 500;

    private static final int MEASURES = 5;
    private static final int STUFFS = 16;
    private static final int COLOURS = 8;

    private static final int KIND_STUFF = 5;
    private static final int KIND_COLOUR = 6;
    private static final int KIND_MUST = 7;

    private static final int DAILY = 0;
    private static final int FEAST = 1;
    private static final int WEDDING = 2;
    private static final int ALWAYS = 3;

    private static final int NOT_JUDGED = 0;
    private static final int CONVICTED = 1;
    private static final int FALSE_LETTER = 2;
    private static final int DISMISSED = 3;
    private static final int FALSE_PENCE = 50;
    private static final int MOST_TIMES = 5;

    private static final int PRICES = 7;
    private static final int PRICE_STUFF = 5;
    private static final int PRICE_COLOUR = 6;
    private static final int TOP_PRICE = 999;

    // The feasts are everyone's: they share the form of the weddings, under one key.
    private static final int CITY = 0;

    private final Reader reader = new Reader();
    private final Codex codex = new Codex();
    private final Rows ranks = new Rows(PEOPLE * MOST_RANK_CHANGES);
    private final Rows weddings = new Rows(PEOPLE * MOST_WEDDINGS);
    private final Rows feasts = new Rows(MOST_FEASTS);
    private final Rows likes = new Rows(MOST_LIKES);
    private final Gown[] gowns = new Gown[MOST_GOWNS];
    private int gownCount = 0;
    private final Letter[] letters = new Letter[MOST_LETTERS];
    private int letterCount = 0;
    private final int[] convictions = new int[PEOPLE];
    private final int[] paid = new int[PEOPLE];
    private final int[] had = new int[PEOPLE];
    private int chest = 0;
    private final int[] prices = new int[PRICES];
    private final Wearing wearing = new Wearing();
    private final Bounds bounds = new Bounds();

    public GownCourt() {
        for (int k = 0; k < prices.length; k++) {
            prices[k] = 1;
        }
    }

    public int feed(int a, int b, int c, int d, int e) {
        Tape tape = reader.tape;
        if (tape.size() + FEED_BYTES > TAPE_BYTES) {
            return FULL;
        }
        tape.put(a);
        tape.put(b);
        tape.put(c);
        tape.put(d);
        tape.put(e);
        return tape.size();
    }

    public int end(int n) {
        if (n < 0 || n > reader.tape.size()) {
            return NONE;
        }
        reader.tape.cutTo(n);
        return n;
    }

    // ---- people, days, gowns

    public int rank(int p, int day, int rank) {
        if (!isPerson(p) || !isDay(day) || !isRank(rank)) {
            return RANGE;
        }
        if (ranks.countOf(p) >= MOST_RANK_CHANGES) {
            return FULL;
        }
        ranks.add(p, day, rank);
        return ranks.countOf(p);
    }

    public int feast(int from, int to) {
        if (!isSpan(from, to)) {
            return RANGE;
        }
        if (feasts.size() >= MOST_FEASTS) {
            return FULL;
        }
        feasts.add(CITY, from, to);
        return feasts.size();
    }

    public int wedding(int p, int from, int to) {
        if (!isPerson(p) || !isSpan(from, to)) {
            return RANGE;
        }
        if (weddings.countOf(p) >= MOST_WEDDINGS) {
            return FULL;
        }
        weddings.add(p, from, to);
        return weddings.countOf(p);
    }

    public int on(int p, int day, int what) {
        if (!isPerson(p) || !isDay(day)) {
            return RANGE;
        }
        switch (what) {
            case 0: return rankOn(p, day);
            case 1: return occasionOn(p, day);
            default: return RANGE;
        }
    }

    public int gown(int sleeve, int train, int pearls, int chain, int cost, int stuff, int colour) {
        boolean measured = isMeasure(sleeve) && isMeasure(train) && isMeasure(pearls)
                && isMeasure(chain) && isMeasure(cost);
        if (!measured || !isStuff(stuff) || !isColour(colour)) {
            return RANGE;
        }
        if (gownCount >= MOST_GOWNS) {
            return FULL;
        }
        gowns[gownCount] = new Gown(sleeve, train, pearls, chain, cost, stuff, colour);
        gownCount++;
        return gownCount - 1;
    }

    public int seal(int g, int day) {
        Gown gown = findGown(g);
        if (gown == null || !isDay(day)) {
            return RANGE;
        }
        if (gown.sealedOn != NONE) {
            return STATE;
        }
        gown.sealedOn = day;
        return 1;
    }

    public int about(int g, int what) {
        Gown gown = findGown(g);
        if (gown == null) {
            return NONE;
        }
        switch (what) {
            case 5: return gown.stuff;
            case 6: return gown.colour;
            case 7: return gown.sealedOn;
            default: return gown.measure(what);
        }
    }

    public int like(int stuff, int as, int day) {
        // Only a lesser stuff is taken, and so every chain of likes comes to an end.
        if (!isStuff(stuff) || !isStuff(as) || as >= stuff || !isDay(day)) {
            return RANGE;
        }
        if (likes.size() >= MOST_LIKES) {
            return FULL;
        }
        likes.add(stuff, day, as);
        return likes.size();
    }

    public int counts(int stuff, int day) {
        if (!isStuff(stuff) || !isDay(day)) {
            return RANGE;
        }
        return countsAs(stuff, day);
    }

    // ---- acts

    public int act(int day) {
        boolean mayBegin = isDay(day) && day >= codex.latestFirstDay();
        if (mayBegin) {
            reader.read(codex.size());
        }
        // Whatever the answer, no text is left for the next act to begin with.
        reader.tape.cutTo(0);
        if (!mayBegin) {
            return RANGE;
        }
        if (reader.faultKind() != 0) {
            return NONE;
        }
        if (codex.size() >= MOST_ACTS) {
            return FULL;
        }
        codex.add(reader.takeDraft(), day);
        return codex.size() - 1;
    }

    public int fault(int what) {
        switch (what) {
            case 0: return reader.faultKind();
            case 1: return reader.faultPlace();
            default: return NONE;
        }
    }

    public int told(int a, int what) {
        Act act = codex.find(a);
        if (act == null) {
            return NO_SUCH;
        }
        switch (what) {
            case 0: return act.firstDay;
            case 1: return act.ruleCount;
            case 2: return act.sealDays();
            case 3: return act.part;
            case 4: return act.repeals;
            default: return NO_SUCH;
        }
    }

    public int rule(int a, int r, int what) {
        Act act = codex.find(a);
        if (act == null) {
            return NO_SUCH;
        }
        Rule rule = act.findRule(r);
        if (rule == null) {
            return NO_SUCH;
        }
        switch (what) {
            case 0: return rule.kind;
            case 1: return rule.limit;
            case 2: return rule.lowRank;
            case 3: return rule.highRank;
            case 4: return rule.when;
            case 5: return rule.pence;
            default: return NO_SUCH;
        }
    }

    public int force(int day) {
        if (!isDay(day)) {
            return RANGE;
        }
        return codex.inForce(day);
    }

    // ---- judging

    public int fine(int p, int g, int day) {
        if (!putOn(p, g, day)) {
            return RANGE;
        }
        return fineOfWearing(p);
    }

    public int broken(int p, int g, int day, int a) {
        if (codex.find(a) == null || !putOn(p, g, day)) {
            return RANGE;
        }
        return codex.brokenRules(a, wearing);
    }

    public int letter(int by, int p, int g, int day) {
        if (!isPerson(by) || !isPerson(p) || by == p || findGown(g) == null || !isDay(day)) {
            return RANGE;
        }
        if (letterCount >= MOST_LETTERS) {
            return FULL;
        }
        letters[letterCount] = new Letter(by, p, g, day);
        letterCount++;
        return letterCount - 1;
    }

    public int judge(int k) {
        Letter letter = findLetter(k);
        if (letter == null) {
            return RANGE;
        }
        if (letter.verdict != NOT_JUDGED) {
            return STATE;
        }
        if (wasConvicted(letter)) {
            letter.verdict = DISMISSED;
            return DISMISSED;
        }
        int pence = putOn(letter.accused, letter.gown, letter.day) ? fineOfWearing(letter.accused) : 0;
        if (pence > 0) {
            convict(letter, pence);
        } else {
            punishFalse(letter);
        }
        return letter.verdict;
    }

    public int lettered(int k, int what) {
        Letter letter = findLetter(k);
        if (letter == null) {
            return NO_SUCH;
        }
        switch (what) {
            case 0: return letter.by;
            case 1: return letter.accused;
            case 2: return letter.gown;
            case 3: return letter.day;
            case 4: return letter.verdict;
            case 5: return letter.pence;
            case 6: return letter.share;
            default: return NO_SUCH;
        }
    }

    public int person(int p, int what) {
        if (!isPerson(p)) {
            return RANGE;
        }
        switch (what) {
            case 0: return convictions[p];
            case 1: return paid[p];
            case 2: return had[p];
            default: return RANGE;
        }
    }

    public int price(int k, int pence) {
        if (k < 0 || k >= PRICES || pence < 0 || pence > TOP_PRICE) {
            return RANGE;
        }
        int before = prices[k];
        prices[k] = pence;
        return before;
    }

    public int alter(int p, int g, int day) {
        if (!putOn(p, g, day)) {
            return RANGE;
        }
        return cheapestChange();
    }

    public int best(int p, int g, int day) {
        if (!putOn(p, g, day)) {
            return RANGE;
        }
        int pence = fineOfWearing(p);
        if (pence == 0) {
            return 0;
        }
        int change = cheapestChange();
        return change != NONE && change <= pence ? 1 : 2;
    }

    public int worn(int g, int rank, int from, int to, int what) {
        Gown gown = findGown(g);
        if (gown == null || !isRank(rank) || !isSpan(from, to) || to - from >= MOST_WORN_DAYS
                || what < 0 || what > 2) {
            return RANGE;
        }
        int days = 0;
        int first = NONE;
        int last = NONE;
        for (int day = from; day <= to; day++) {
            wearing.take(rank, DAILY, gown, day, countsAs(gown.stuff, day));
            if (!codex.breaksAny(wearing)) {
                days++;
                first = first == NONE ? day : first;
                last = day;
            }
        }
        if (what == 0) {
            return days;
        }
        return what == 1 ? first : last;
    }

    public int count(int what) {
        switch (what) {
            case 0: return codex.size();
            case 1: return gownCount;
            case 2: return letterCount;
            case 3: return chest;
            case 4: return likes.size();
            case 5: return feasts.size();
            case 6: return reader.tape.size();
            default: return NONE;
        }
    }

    // ---- what can be

    private static boolean isPerson(int p) {
        return p >= 0 && p < PEOPLE;
    }

    private static boolean isDay(int day) {
        return day >= 0 && day <= LAST_DAY;
    }

    private static boolean isSpan(int from, int to) {
        return isDay(from) && isDay(to) && from <= to;
    }

    private static boolean isRank(int rank) {
        return rank >= 0 && rank <= TOP_RANK;
    }

    private static boolean isMeasure(int size) {
        return size >= 0 && size <= MOST;
    }

    private static boolean isStuff(int stuff) {
        return stuff >= 0 && stuff < STUFFS;
    }

    private static boolean isColour(int colour) {
        return colour >= 0 && colour < COLOURS;
    }

    private Gown findGown(int g) {
        return g >= 0 && g < gownCount && g < gowns.length ? gowns[g] : null;
    }

    private Letter findLetter(int k) {
        return k >= 0 && k < letterCount && k < letters.length ? letters[k] : null;
    }

    // ---- what holds on a day

    private int rankOn(int p, int day) {
        return ranks.heldOn(p, day, FIRST_RANK);
    }

    private int occasionOn(int p, int day) {
        if (weddings.spanOver(p, day)) {
            return WEDDING;
        }
        return feasts.spanOver(CITY, day) ? FEAST : DAILY;
    }

    private int countsAs(int stuff, int day) {
        int now = stuff;
        for (int step = 0; step < STUFFS; step++) {
            int next = likes.heldOn(now, day, now);
            if (next == now) {
                return now;
            }
            now = next;
        }
        return now;
    }

    /** Makes ready the wearing that is judged; false when there is no such one, gown or day. */
    private boolean putOn(int p, int g, int day) {
        Gown gown = findGown(g);
        if (!isPerson(p) || gown == null || !isDay(day)) {
            return false;
        }
        wearing.take(rankOn(p, day), occasionOn(p, day), gown, day, countsAs(gown.stuff, day));
        return true;
    }

    // ---- fines and letters

    private int fineOfWearing(int p) {
        if (!isPerson(p)) {
            return 0;
        }
        int times = Math.min(1 + convictions[p], MOST_TIMES);
        return codex.penceOfBroken(wearing) * times;
    }

    private boolean wasConvicted(Letter letter) {
        for (int k = 0; k < letterCount; k++) {
            Letter other = findLetter(k);
            if (other != null && other.verdict == CONVICTED && other.isOfSameCase(letter)) {
                return true;
            }
        }
        return false;
    }

    private void convict(Letter letter, int pence) {
        if (!isPerson(letter.accused) || !isPerson(letter.by)) {
            return;
        }
        int share = (int) ((long) pence * codex.partOn(letter.day) / 100);
        letter.verdict = CONVICTED;
        letter.pence = pence;
        letter.share = share;
        convictions[letter.accused]++;
        paid[letter.accused] += pence;
        had[letter.by] += share;
        chest += pence - share;
    }

    private void punishFalse(Letter letter) {
        if (!isPerson(letter.by)) {
            return;
        }
        letter.verdict = FALSE_LETTER;
        paid[letter.by] += FALSE_PENCE;
        chest += FALSE_PENCE;
    }

    // ---- altering

    private int cheapestChange() {
        codex.bound(bounds, wearing);
        int stuffCost = stuffChange();
        int colourCost = colourChange();
        if (stuffCost == NONE || colourCost == NONE) {
            return NONE;
        }
        int cost = stuffCost + colourCost;
        for (int m = 0; m < MEASURES; m++) {
            cost += Math.max(0, wearing.gown.measure(m) - bounds.limitOf(m)) * prices[m];
        }
        return cost;
    }

    private int stuffChange() {
        if (bounds.leavesStuff(wearing.countedStuff)) {
            return 0;
        }
        for (int stuff = 0; stuff < STUFFS; stuff++) {
            if (bounds.leavesStuff(countsAs(stuff, wearing.day))) {
                return prices[PRICE_STUFF];
            }
        }
        return NONE;
    }

    private int colourChange() {
        if (bounds.leavesColour(wearing.gown.colour)) {
            return 0;
        }
        for (int colour = 0; colour < COLOURS; colour++) {
            if (bounds.leavesColour(colour)) {
                return prices[PRICE_COLOUR];
            }
        }
        return NONE;
    }

    /** The bytes that wait to be read as an act. */
    private static final class Tape {
        private final byte[] bytes = new byte[TAPE_BYTES];
        private int size = 0;

        int size() {
            return size;
        }

        void put(int word) {
            for (int shift = 24; shift >= 0; shift -= 8) {
                if (size < bytes.length) {
                    bytes[size] = (byte) (word >>> shift);
                    size++;
                }
            }
        }

        void cutTo(int n) {
            if (n >= 0 && n <= size) {
                size = n;
            }
        }

        /** The byte at a place, 0 .. 255; NONE behind the last. */
        int byteAt(int place) {
            return place >= 0 && place < size && place < bytes.length ? bytes[place] & 255 : NONE;
        }
    }

    /** Rows in the order in which they were told: of whom or what (the key), a day, a number. */
    private static final class Rows {
        private final int[] keys;
        private final int[] days;
        private final int[] numbers;
        private int size = 0;

        Rows(int room) {
            int length = Math.max(0, room);
            keys = new int[length];
            days = new int[length];
            numbers = new int[length];
        }

        int size() {
            return size;
        }

        int countOf(int key) {
            int found = 0;
            for (int i = 0; i < size; i++) {
                if (keys[i] == key) {
                    found++;
                }
            }
            return found;
        }

        void add(int key, int day, int number) {
            if (size < keys.length) {
                keys[size] = key;
                days[size] = day;
                numbers[size] = number;
                size++;
            }
        }

        /** The number that holds on a day, where each row says what holds from its day on. */
        int heldOn(int key, int day, int otherwise) {
            int held = otherwise;
            int latest = NONE;
            for (int i = 0; i < size; i++) {
                // Not below: of one day that which was told last holds.
                if (keys[i] == key && days[i] <= day && days[i] >= latest) {
                    latest = days[i];
                    held = numbers[i];
                }
            }
            return held;
        }

        /** Whether some row has a day, where each is a span up to the day that is its number. */
        boolean spanOver(int key, int day) {
            for (int i = 0; i < size; i++) {
                if (keys[i] == key && days[i] <= day && day <= numbers[i]) {
                    return true;
                }
            }
            return false;
        }
    }

    /** A gown as it was told, and when it was sealed. */
    private static final class Gown {
        private final int[] measures = new int[MEASURES];
        private final int stuff;
        private final int colour;
        private int sealedOn = NONE;

        Gown(int sleeve, int train, int pearls, int chain, int cost, int stuff, int colour) {
            measures[0] = sleeve;
            measures[1] = train;
            measures[2] = pearls;
            measures[3] = chain;
            measures[4] = cost;
            this.stuff = stuff;
            this.colour = colour;
        }

        int measure(int m) {
            return m >= 0 && m < measures.length ? measures[m] : NONE;
        }
    }

    /** One of a rank in a gown on a day: what a rule looks at. */
    private static final class Wearing {
        private int rank = FIRST_RANK;
        private int occasion = DAILY;
        // A plain gown until the first is put on, so that there always is one.
        private Gown gown = new Gown(0, 0, 0, 0, 0, 0, 0);
        private int day = 0;
        private int countedStuff = 0;

        void take(int rank, int occasion, Gown gown, int day, int countedStuff) {
            this.rank = rank;
            this.occasion = occasion;
            this.gown = gown;
            this.day = day;
            this.countedStuff = countedStuff;
        }
    }

    /** A line with a fine. */
    private static final class Rule {
        private final int kind;
        private final int limit;
        private final int lowRank;
        private final int highRank;
        private final int when;
        private final int pence;

        Rule(int kind, int limit, int lowRank, int highRank, int when, int pence) {
            this.kind = kind;
            this.limit = limit;
            this.lowRank = lowRank;
            this.highRank = highRank;
            this.when = when;
            this.pence = pence;
        }

        boolean concerns(Wearing wearing) {
            boolean who = lowRank <= wearing.rank && wearing.rank <= highRank;
            return who && (when == ALWAYS || when == wearing.occasion);
        }

        boolean isOffended(Wearing wearing) {
            switch (kind) {
                case KIND_STUFF: return wearing.countedStuff == limit;
                case KIND_COLOUR: return wearing.gown.colour == limit;
                case KIND_MUST: return wearing.gown.colour != limit;
                default: return wearing.gown.measure(kind) > limit;
            }
        }
    }

    /** What the rules that bind leave to the one who wears. */
    private static final class Bounds {
        private final int[] limits = new int[MEASURES];
        private int barredStuffs = 0;
        private int barredColours = 0;

        void open() {
            Arrays.fill(limits, MOST);
            barredStuffs = 0;
            barredColours = 0;
        }

        void narrow(Rule rule) {
            switch (rule.kind) {
                case KIND_STUFF:
                    barredStuffs |= 1 << rule.limit;
                    break;
                case KIND_COLOUR:
                    barredColours |= 1 << rule.limit;
                    break;
                case KIND_MUST:
                    barredColours |= ~(1 << rule.limit);
                    break;
                default:
                    lower(rule.kind, rule.limit);
            }
        }

        private void lower(int m, int limit) {
            if (m >= 0 && m < limits.length) {
                limits[m] = Math.min(limits[m], limit);
            }
        }

        int limitOf(int m) {
            return m >= 0 && m < limits.length ? limits[m] : MOST;
        }

        boolean leavesStuff(int counted) {
            return (barredStuffs >>> counted & 1) == 0;
        }

        boolean leavesColour(int colour) {
            return (barredColours >>> colour & 1) == 0;
        }
    }

    /** An act: what its text told, and the day from which it is. */
    private static final class Act {
        private int firstDay = 0;
        private final Rule[] rules = new Rule[MOST_RULES];
        private int ruleCount = 0;
        private int seal = NONE;
        private int part = NONE;
        private int repeals = 0;

        void wipe() {
            ruleCount = 0;
            seal = NONE;
            part = NONE;
            repeals = 0;
        }

        void add(Rule rule) {
            if (ruleCount < rules.length) {
                rules[ruleCount] = rule;
                ruleCount++;
            }
        }

        Rule findRule(int r) {
            return r >= 0 && r < ruleCount && r < rules.length ? rules[r] : null;
        }

        int sealDays() {
            return Math.max(0, seal);
        }

        boolean lets(Wearing wearing) {
            int sealedOn = wearing.gown.sealedOn;
            return sealedOn != NONE && sealedOn < firstDay && wearing.day < firstDay + sealDays();
        }

        int brokenBits(Wearing wearing) {
            int bits = 0;
            for (int r = 0; r < ruleCount; r++) {
                Rule rule = findRule(r);
                if (rule != null && rule.concerns(wearing) && rule.isOffended(wearing)) {
                    bits |= 1 << r;
                }
            }
            return bits;
        }

        int penceOf(int bits) {
            int pence = 0;
            for (int r = 0; r < ruleCount; r++) {
                Rule rule = findRule(r);
                if (rule != null && (bits >>> r & 1) == 1) {
                    pence += rule.pence;
                }
            }
            return pence;
        }

        void narrow(Bounds bounds, Wearing wearing) {
            for (int r = 0; r < ruleCount; r++) {
                Rule rule = findRule(r);
                if (rule != null && rule.concerns(wearing)) {
                    bounds.narrow(rule);
                }
            }
        }
    }

    /** All acts, in the order of their first days. */
    private static final class Codex {
        private final Act[] acts = new Act[MOST_ACTS];
        private int size = 0;

        int size() {
            return size;
        }

        Act find(int a) {
            return a >= 0 && a < size && a < acts.length ? acts[a] : null;
        }

        int latestFirstDay() {
            Act latest = find(size - 1);
            return latest == null ? 0 : latest.firstDay;
        }

        void add(Act act, int firstDay) {
            if (size < acts.length) {
                act.firstDay = firstDay;
                acts[size] = act;
                size++;
            }
        }

        int inForce(int day) {
            int begun = 0;
            int repealed = 0;
            for (int a = 0; a < size; a++) {
                Act act = find(a);
                if (act != null && act.firstDay <= day) {
                    begun |= 1 << a;
                    repealed |= act.repeals;
                }
            }
            return begun & ~repealed;
        }

        /** Act a, if its bit is set; else null. */
        private Act among(int bits, int a) {
            return (bits >>> a & 1) == 1 ? find(a) : null;
        }

        /** The part that the latest act in force with one gives; 0 without. */
        int partOn(int day) {
            int force = inForce(day);
            for (int a = size - 1; a >= 0; a--) {
                Act act = among(force, a);
                if (act != null && act.part != NONE) {
                    return act.part;
                }
            }
            return 0;
        }

        /** The acts whose rules are asked about this wearing: in force, and not letting the gown. */
        private int reaching(Wearing wearing) {
            int bits = inForce(wearing.day);
            for (int a = 0; a < size; a++) {
                Act act = find(a);
                if (act != null && act.lets(wearing)) {
                    bits &= ~(1 << a);
                }
            }
            return bits;
        }

        int brokenRules(int a, Wearing wearing) {
            Act act = among(reaching(wearing), a);
            return act == null ? 0 : act.brokenBits(wearing);
        }

        int penceOfBroken(Wearing wearing) {
            int reaching = reaching(wearing);
            int pence = 0;
            for (int a = 0; a < size; a++) {
                Act act = among(reaching, a);
                if (act != null) {
                    pence += act.penceOf(act.brokenBits(wearing));
                }
            }
            return pence;
        }

        boolean breaksAny(Wearing wearing) {
            int reaching = reaching(wearing);
            for (int a = 0; a < size; a++) {
                Act act = among(reaching, a);
                if (act != null && act.brokenBits(wearing) != 0) {
                    return true;
                }
            }
            return false;
        }

        void bound(Bounds bounds, Wearing wearing) {
            int reaching = reaching(wearing);
            bounds.open();
            for (int a = 0; a < size; a++) {
                Act act = among(reaching, a);
                if (act != null) {
                    act.narrow(bounds, wearing);
                }
            }
        }
    }

    /** A letter that denounces, and what came of it. */
    private static final class Letter {
        private final int by;
        private final int accused;
        private final int gown;
        private final int day;
        private int verdict = NOT_JUDGED;
        private int pence = 0;
        private int share = 0;

        Letter(int by, int accused, int gown, int day) {
            this.by = by;
            this.accused = accused;
            this.gown = gown;
            this.day = day;
        }

        boolean isOfSameCase(Letter other) {
            return accused == other.accused && gown == other.gown && day == other.day;
        }
    }

    /** Has the tape, and reads it token by token into a draft of an act, up to the first fault. */
    private static final class Reader {
        private static final int SYNTAX = 1;
        private static final int OUT_OF_BOUNDS = 2;
        private static final int TWICE = 3;
        private static final int ROOM = 4;

        private static final int TOKEN_END = 0;
        private static final int TOKEN_WORD = 1;
        private static final int TOKEN_NUMBER = 2;
        private static final int TOKEN_SEMICOLON = 3;
        private static final int TOKEN_BAD = 4;
        private static final int MOST_DIGITS = 4;

        // What the next token must be.
        private static final int AT_LINE = 0;
        private static final int AT_LIMIT = 1;
        private static final int AT_WHO = 2;
        private static final int AT_LOW_RANK = 3;
        private static final int AT_TO = 4;
        private static final int AT_HIGH_RANK = 5;
        private static final int AT_WHEN = 6;
        private static final int AT_FINE = 7;
        private static final int AT_PENCE = 8;
        private static final int AT_REPEAL = 9;
        private static final int AT_SEAL = 10;
        private static final int AT_PART = 11;
        private static final int AT_SEMICOLON = 12;

        private final Tape tape = new Tape();
        private Act draft = new Act();
        private int actsThere = 0;
        private int faultKind = 0;
        private int faultPlace = NONE;
        private int state = AT_LINE;

        private int token = TOKEN_END;
        private int start = 0;
        private int end = 0;
        private int number = 0;

        private int kind = 0;
        private int limit = 0;
        private int lowRank = 0;
        private int highRank = TOP_RANK;
        private int when = ALWAYS;

        int faultKind() {
            return faultKind;
        }

        int faultPlace() {
            return faultPlace;
        }

        /** The act that was read; the next is read into another. */
        Act takeDraft() {
            Act taken = draft;
            draft = new Act();
            return taken;
        }

        void read(int actsThere) {
            this.actsThere = actsThere;
            draft.wipe();
            faultKind = 0;
            faultPlace = NONE;
            state = AT_LINE;
            end = 0;
            token = TOKEN_BAD;
            // Each token but the end has a byte at least.
            for (int i = 0; i <= TAPE_BYTES && faultKind == 0 && token != TOKEN_END; i++) {
                scan();
                if (token != TOKEN_END || state != AT_LINE) {
                    step();
                }
            }
        }

        private void scan() {
            start = end;
            while (start < tape.size() && isBlank(tape.byteAt(start))) {
                start++;
            }
            int first = tape.byteAt(start);
            end = start + 1;
            if (first == NONE) {
                token = TOKEN_END;
            } else if (isLetter(first)) {
                scanWord();
            } else if (isDigit(first)) {
                scanNumber();
            } else {
                token = first == ';' ? TOKEN_SEMICOLON : TOKEN_BAD;
            }
        }

        private void scanWord() {
            while (end < tape.size() && isLetter(tape.byteAt(end))) {
                end++;
            }
            token = TOKEN_WORD;
        }

        private void scanNumber() {
            while (end < tape.size() && isDigit(tape.byteAt(end))) {
                end++;
            }
            token = end - start <= MOST_DIGITS ? TOKEN_NUMBER : TOKEN_BAD;
            number = 0;
            for (int i = start; i < end && token == TOKEN_NUMBER; i++) {
                number = number * 10 + tape.byteAt(i) - '0';
            }
        }

        private static boolean isBlank(int b) {
            return b == ' ' || b == '\n';
        }

        private static boolean isLetter(int b) {
            return b >= 'a' && b <= 'z';
        }

        private static boolean isDigit(int b) {
            return b >= '0' && b <= '9';
        }

        private void step() {
            switch (state) {
                case AT_LINE: startLine(); break;
                case AT_LIMIT: limit = takeNumber(0, topLimit(), AT_WHO); break;
                case AT_WHO: readWho(); break;
                case AT_LOW_RANK: lowRank = takeNumber(0, TOP_RANK, AT_TO); break;
                case AT_TO: takeWord("to", AT_HIGH_RANK); break;
                case AT_HIGH_RANK: highRank = takeNumber(lowRank, TOP_RANK, AT_WHEN); break;
                case AT_WHEN: readWhen(); break;
                case AT_FINE: takeWord("fine", AT_PENCE); break;
                case AT_PENCE: finishRule(takeNumber(0, MOST, AT_SEMICOLON)); break;
                case AT_REPEAL: readRepeal(); break;
                case AT_SEAL: draft.seal = takeNumber(0, MOST, AT_SEMICOLON); break;
                case AT_PART: draft.part = takeNumber(0, 100, AT_SEMICOLON); break;
                default: endLine(); break;
            }
        }

        private void startLine() {
            int found = ruleKind();
            if (found != NONE) {
                kind = found;
                goOn(draft.ruleCount >= MOST_RULES ? ROOM : 0, AT_LIMIT);
            } else if (isWord("repeal")) {
                goOn(0, AT_REPEAL);
            } else if (isWord("seal")) {
                goOn(draft.seal != NONE ? TWICE : 0, AT_SEAL);
            } else if (isWord("part")) {
                goOn(draft.part != NONE ? TWICE : 0, AT_PART);
            } else {
                blame(SYNTAX);
            }
        }

        private int ruleKind() {
            if (isWord("sleeve")) {
                return 0;
            }
            if (isWord("train")) {
                return 1;
            }
            if (isWord("pearls")) {
                return 2;
            }
            if (isWord("chain")) {
                return 3;
            }
            if (isWord("cost")) {
                return 4;
            }
            if (isWord("stuff")) {
                return KIND_STUFF;
            }
            if (isWord("colour")) {
                return KIND_COLOUR;
            }
            return isWord("must") ? KIND_MUST : NONE;
        }

        private int topLimit() {
            switch (kind) {
                case KIND_STUFF: return STUFFS - 1;
                case KIND_COLOUR: return COLOURS - 1;
                case KIND_MUST: return COLOURS - 1;
                default: return MOST;
            }
        }

        private void readWho() {
            if (isWord("all")) {
                lowRank = 0;
                highRank = TOP_RANK;
                state = AT_WHEN;
            } else {
                takeWord("ranks", AT_LOW_RANK);
            }
        }

        private void readWhen() {
            when = whenWord();
            goOn(when == NONE ? SYNTAX : 0, AT_FINE);
        }

        private int whenWord() {
            if (isWord("daily")) {
                return DAILY;
            }
            if (isWord("feast")) {
                return FEAST;
            }
            if (isWord("wedding")) {
                return WEDDING;
            }
            return isWord("always") ? ALWAYS : NONE;
        }

        private void finishRule(int pence) {
            if (faultKind == 0) {
                draft.add(new Rule(kind, limit, lowRank, highRank, when, pence));
            }
        }

        private void readRepeal() {
            int bit = 1 << takeNumber(0, actsThere - 1, AT_SEMICOLON);
            if (faultKind == 0) {
                goOn((draft.repeals & bit) != 0 ? TWICE : 0, AT_SEMICOLON);
                draft.repeals |= bit;
            }
        }

        private void endLine() {
            goOn(token == TOKEN_SEMICOLON ? 0 : SYNTAX, AT_LINE);
        }

        private int takeNumber(int low, int high, int next) {
            if (token != TOKEN_NUMBER) {
                blame(SYNTAX);
                return 0;
            }
            if (number < low || number > high) {
                blame(OUT_OF_BOUNDS);
                return 0;
            }
            state = next;
            return number;
        }

        private void takeWord(String word, int next) {
            goOn(isWord(word) ? 0 : SYNTAX, next);
        }

        private boolean isWord(String word) {
            if (token != TOKEN_WORD || end - start != word.length()) {
                return false;
            }
            for (int i = 0; i < word.length(); i++) {
                if (tape.byteAt(start + i) != word.charAt(i)) {
                    return false;
                }
            }
            return true;
        }

        /** To the next state, unless the token has a fault of a kind above 0. */
        private void goOn(int fault, int next) {
            if (fault != 0) {
                blame(fault);
            } else {
                state = next;
            }
        }

        private void blame(int kindOfFault) {
            faultKind = kindOfFault;
            faultPlace = start;
        }
    }
}
