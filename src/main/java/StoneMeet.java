import java.util.Arrays;

/**
 * A cave of pairs that grow toward each other by drops: told as a text, moved by deeds, asked for
 * what will be, what could be led, what was seen, what can be forced and how likely it is.
 *
 * <p>The numbers of all pairs are held in one int: gaps and chalk as digits of base 10, a leading
 * as digits of base 5, pair 0 the lowest. A state is the gaps, and FALLEN more once the roof fell.
 */
public final class StoneMeet {
    /** There is none. */
    public static final int NONE = -1;

    private static final int NO_SUCH = -2;
    private static final int BAD_NUMBER = -3;
    private static final int TOO_MANY = -4;
    private static final int NOT_NOW = -5;
    private static final int NO_TRAY = -6;
    private static final int NO_PLACE = -7;
    private static final int WHY_NOT = -10;
    private static final int BAD_TEXT = -30;
    /** Answers that may be below 0 themselves have their codes far from these. */
    private static final int FAR = -99000000;

    private static final int TEXT_BYTES = 900;
    private static final int FED_BYTES = 20;
    private static final int MOST_PAIRS = 4;
    private static final int MOST_DROPS = 4;
    /** From no drops to the most. */
    private static final int SHARES = 5;
    private static final int MOST_LEADINGS = 35;
    private static final int LEADING_NUMBERS = 625;
    private static final int WIDEST_GAP = 9;
    private static final int MOST_CHALK = 9;
    private static final int TRAYS = 4;
    private static final int TRAY_PLACES = 40;
    private static final int SORTS = 4;
    private static final int IMAGES = 2;
    private static final int UNDOABLE = 10;
    private static final int MOST_SEEN = 10;
    private static final int FARTHEST_YEAR = 99999;
    private static final int LONGEST_ROW = 8;
    private static final int LONGEST_AGE = 40;
    private static final int FALLEN = 10000;
    private static final int STATES = 20000;
    private static final int[] TENS = {1, 10, 100, 1000};
    private static final int[] FIVES = {1, 5, 25, 125};

    private final byte[] tape = new byte[TEXT_BYTES];
    private int taped = 0;
    private final Parser parser = new Parser();
    private Cave cave = new Cave(parser);
    private final Stand now = new Stand();
    private final Stand before = new Stand();
    private final Stand tried = new Stand();
    private final Past past = new Past();
    private final Tray[] trays = new Tray[TRAYS];
    private final Cave[] imageCaves = new Cave[IMAGES];
    private final Stand[] imageStands = new Stand[IMAGES];
    private final Course course = new Course(cave);
    private final Walk walk = new Walk(course);
    private final DryRows dryRows = new DryRows(course);
    private final Search search = new Search(course, cave);
    private final int[] meetYears = new int[MOST_PAIRS];
    private final int[] movedYears = new int[MOST_PAIRS];
    /** By how much a pair would grow: how many chalks. */
    private final int[] alike = new int[2 * WIDEST_GAP + 1];
    private int drawn = 0;

    public StoneMeet() {
        for (int i = 0; i < TRAYS; i++) {
            trays[i] = new Tray();
        }
        for (int i = 0; i < IMAGES; i++) {
            imageStands[i] = new Stand();
        }
    }

    // ---- the cave

    public int feed(int a, int b, int c, int d, int e) {
        if (taped + FED_BYTES > TEXT_BYTES) {
            return NOT_NOW;
        }
        tapeFour(a);
        tapeFour(b);
        tapeFour(c);
        tapeFour(d);
        tapeFour(e);
        return taped;
    }

    private void tapeFour(int bytes) {
        for (int shift = 24; shift >= 0 && taped < TEXT_BYTES; shift -= 8) {
            tape[taped] = (byte) (bytes >> shift);
            taped++;
        }
    }

    public int cave(int n) {
        if (n < 0 || n > taped) {
            return BAD_NUMBER;
        }
        taped = 0;
        Cave told = parser.read(tape, n);
        if (told == null) {
            return BAD_TEXT - parser.faultKind;
        }
        cave = told;
        now.begin(told);
        past.forget();
        return told.lines;
    }

    public int fault(int what) {
        if (what == 0) {
            return parser.faultKind;
        }
        return what == 1 ? parser.faultPlace : NONE;
    }

    public int pair(int p, int what) {
        if (!isPair(p)) {
            return NO_SUCH;
        }
        switch (what) {
            case 0:
                return digit(now.state, p);
            case 1:
                return digit(now.chalks, p);
            case 2:
                return dropsOf(now.leading, p);
            case 3:
                return digit(cave.gaps, p);
            default:
                return NO_SUCH;
        }
    }

    public int grown(int p, int drops, int dry) {
        if (!isPair(p)) {
            return FAR + NO_SUCH;
        }
        if (drops < 0 || drops > MOST_DROPS || !isDryness(dry)) {
            return FAR + BAD_NUMBER;
        }
        int gap = digit(now.state, p);
        return gap == 0 ? 0 : tuned().growth(p, drops, gap, cave.metCount(now.state), dry);
    }

    public int leadings() {
        return cave.leadings.length;
    }

    private boolean isPair(int p) {
        return p >= 0 && p < cave.pairs;
    }

    private static boolean isDryness(int dry) {
        return dry == 0 || dry == 1;
    }

    /** The course of years as the pairs have chalk now. */
    private Course tuned() {
        course.tune(cave, now.chalks);
        return course;
    }

    // ---- deeds

    public int year(int dry) {
        before.copy(now);
        int why = passYear(now, dry);
        if (why != 0) {
            return WHY_NOT - why;
        }
        past.remember(before);
        return cave.metCount(now.state) - cave.metCount(before.state);
    }

    public int lead(int number) {
        before.copy(now);
        int why = leadOtherwise(now, number);
        if (why != 0) {
            return WHY_NOT - why;
        }
        past.remember(before);
        return before.leading;
    }

    public int saw(int p) {
        before.copy(now);
        int why = sawOff(now, p);
        if (why != 0) {
            return WHY_NOT - why;
        }
        past.remember(before);
        return digit(before.state, p);
    }

    public int chalk(int p, int n) {
        before.copy(now);
        int why = giveChalk(now, p, n);
        if (why != 0) {
            return WHY_NOT - why;
        }
        past.remember(before);
        return digit(before.chalks, p);
    }

    public int undo(int n) {
        if (n < 1 || n > past.size) {
            return BAD_NUMBER;
        }
        for (int i = 0; i < n; i++) {
            past.bringBack(now);
        }
        return past.size;
    }

    public int judge(int tray, int what) {
        if (!isTray(tray) || what < 0 || what > 3) {
            return NO_SUCH;
        }
        Tray deeds = trays[tray];
        if (deeds.missing) {
            return NO_TRAY;
        }
        tried.copy(now);
        int place = 0;
        int why = 0;
        while (place < deeds.size && why == 0) {
            why = act(tried, deeds.at(place));
            place++;
        }
        switch (what) {
            case 0:
                return why == 0 ? NONE : place - 1;
            case 1:
                return why;
            case 2:
                return cave.metBits(tried.state);
            default:
                return cave.gapSum(tried.state);
        }
    }

    public int perform(int tray) {
        if (!isTray(tray)) {
            return NO_SUCH;
        }
        Tray deeds = trays[tray];
        if (deeds.missing) {
            return NO_TRAY;
        }
        before.copy(now);
        int done = 0;
        while (done < deeds.size && act(now, deeds.at(done)) == 0) {
            done++;
        }
        if (done > 0) {
            past.remember(before);
        }
        return done;
    }

    public int age(int seed, int times) {
        if (times < 1 || times > LONGEST_AGE) {
            return BAD_NUMBER;
        }
        before.copy(now);
        drawn = seed;
        int done = 0;
        for (int i = 0; i < times; i++) {
            if (act(now, drawDeed()) == 0) {
                done++;
            }
        }
        if (done > 0) {
            past.remember(before);
        }
        return done;
    }

    private int drawDeed() {
        int kind = draw() % 6;
        if (kind <= 2) {
            return draw() % 3 == 0 ? 1 : 0;
        }
        if (kind == 3) {
            return 10 + draw() % 4;
        }
        if (kind == 4) {
            int p = draw() % 4;
            return 100 + 10 * p + draw() % 10;
        }
        return 1000 + draw() % LEADING_NUMBERS;
    }

    private int draw() {
        drawn = 1103515245 * drawn + 12345;
        return drawn >>> 16;
    }

    /** Does a deed of a tray to a stand: 0, or why it can't be, with nothing changed. */
    private int act(Stand stand, long deed) {
        if (deed == 0 || deed == 1) {
            return passYear(stand, (int) deed);
        }
        if (deed >= 10 && deed <= 19) {
            return sawOff(stand, (int) deed - 10);
        }
        if (deed >= 100 && deed <= 199) {
            int told = (int) deed - 100;
            return giveChalk(stand, told / 10, told % 10);
        }
        if (deed >= 1000 && deed <= 1999) {
            return leadOtherwise(stand, (int) deed - 1000);
        }
        return 1;
    }

    private int passYear(Stand stand, int dry) {
        if (!isDryness(dry)) {
            return 1;
        }
        course.tune(cave, stand.chalks);
        stand.state = course.after(stand.state, stand.leading, dry);
        stand.years++;
        return 0;
    }

    private int leadOtherwise(Stand stand, int number) {
        if (!cave.isLeading(number)) {
            return 1;
        }
        stand.leading = number;
        return 0;
    }

    private int sawOff(Stand stand, int p) {
        if (!isPair(p)) {
            return 1;
        }
        if (stand.state >= FALLEN) {
            return 2;
        }
        stand.state = withDigit(stand.state, p, digit(cave.gaps, p));
        return 0;
    }

    private int giveChalk(Stand stand, int p, int n) {
        if (!isPair(p) || n < 0 || n > MOST_CHALK) {
            return 1;
        }
        stand.chalks = withDigit(stand.chalks, p, n);
        return 0;
    }

    // ---- as it is led

    public int lies(int p, int n) {
        if (!isPair(p)) {
            return NO_SUCH;
        }
        if (n < 0 || n > FARTHEST_YEAR) {
            return BAD_NUMBER;
        }
        tuned();
        return digit(walk.stateBehind(now.state, now.leading, n), p);
    }

    public int meets(int p) {
        if (!isPair(p)) {
            return NO_SUCH;
        }
        tuned();
        walk.tellMeetings(now.state, now.leading, meetYears);
        return meetYears[p];
    }

    public int order(int i) {
        if (i < 0) {
            return BAD_NUMBER;
        }
        tuned();
        walk.tellMeetings(now.state, now.leading, meetYears);
        for (int p = 0; p < cave.pairs; p++) {
            if (meetYears[p] != NONE && countEarlier(p) == i) {
                return p;
            }
        }
        return NONE;
    }

    private int countEarlier(int p) {
        int earlier = 0;
        for (int q = 0; q < cave.pairs; q++) {
            boolean sooner = meetYears[q] < meetYears[p] || (meetYears[q] == meetYears[p] && q < p);
            if (meetYears[q] != NONE && sooner) {
                earlier++;
            }
        }
        return earlier;
    }

    public int falls() {
        tuned();
        return walk.yearsTillFall(now.state, now.leading);
    }

    public int moved(int p, int from, int to) {
        if (!isPair(p) || !isPair(from) || !isPair(to) || from == to) {
            return FAR + NO_SUCH;
        }
        if (dropsOf(now.leading, from) == 0) {
            return FAR + NOT_NOW;
        }
        tuned();
        int other = now.leading - FIVES[from] + FIVES[to];
        walk.tellMeetings(now.state, now.leading, meetYears);
        walk.tellMeetings(now.state, other, movedYears);
        if (meetYears[p] == NONE || movedYears[p] == NONE) {
            return FAR + NONE;
        }
        return movedYears[p] - meetYears[p];
    }

    // ---- led well

    public int soonest(int set) {
        if (!isSet(set)) {
            return BAD_NUMBER;
        }
        Search rows = searching();
        return rows.lengthTo(rows.explore(now.state, set));
    }

    public int way(int set, int i) {
        if (!isSet(set) || i < 0) {
            return BAD_NUMBER;
        }
        Search rows = searching();
        return rows.leadingTo(rows.explore(now.state, set), i);
    }

    public long rows(int set, int n) {
        if (!isSet(set) || n < 0 || n > LONGEST_ROW) {
            return BAD_NUMBER;
        }
        return searching().countRows(now.state, set, n);
    }

    public int most() {
        Search rows = searching();
        rows.explore(now.state, Search.EVERYTHING);
        return rows.mostMet();
    }

    public int holding() {
        if (now.state >= FALLEN) {
            return NOT_NOW;
        }
        if (cave.falls == null) {
            return NONE;
        }
        Search rows = searching();
        rows.explore(now.state, Search.EVERYTHING);
        return rows.longestHold(now.state);
    }

    public int felling() {
        if (now.state >= FALLEN) {
            return NOT_NOW;
        }
        if (cave.falls == null) {
            return NONE;
        }
        Search rows = searching();
        return rows.lengthTo(rows.explore(now.state, Search.FELLING));
    }

    public int stands() {
        Search rows = searching();
        rows.explore(now.state, Search.EVERYTHING);
        return rows.reached;
    }

    private boolean isSet(int set) {
        return set >= 0 && set < 1 << cave.pairs;
    }

    private Search searching() {
        search.tune(cave, now.chalks);
        return search;
    }

    // ---- seen

    public int seen(int tray, int p) {
        int refusal = seenRefusal(tray, p);
        if (refusal != 0) {
            return refusal;
        }
        traceSeen(tray, p);
        return dryRows.found;
    }

    public int seenDry(int tray, int p, int i) {
        int refusal = seenRefusal(tray, p);
        if (refusal != 0) {
            return refusal;
        }
        if (i < 0) {
            return BAD_NUMBER;
        }
        traceSeen(tray, p);
        if (dryRows.found == 0 || i >= trays[tray].size) {
            return NONE;
        }
        return dryRows.first >> i & 1;
    }

    public int surely(int tray, int p, int what) {
        if (!isDryness(what)) {
            return NO_SUCH;
        }
        int refusal = seenRefusal(tray, p);
        if (refusal != 0) {
            return refusal;
        }
        traceSeen(tray, p);
        if (dryRows.found == 0) {
            return 0;
        }
        return what == 1 ? dryRows.alwaysDry : dryRows.neverDry;
    }

    public int chalks(int tray, int p) {
        int refusal = seenRefusal(tray, p);
        return refusal != 0 ? refusal : chalkBits(tray, p);
    }

    public int attempt(int tray, int p) {
        int refusal = seenRefusal(tray, p);
        if (refusal != 0) {
            return refusal;
        }
        if (digit(now.state, p) == 0) {
            return NOT_NOW;
        }
        int bits = chalkBits(tray, p);
        if (bits == 0) {
            return NONE;
        }
        int best = 0;
        int least = MOST_CHALK + 2;
        for (int drops = 0; drops <= MOST_DROPS; drops++) {
            int most = mostAlike(bits, p, drops);
            if (most < least) {
                least = most;
                best = drops;
            }
        }
        return best;
    }

    /** The code by which a call about what was seen is refused, 0 if it isn't. */
    private int seenRefusal(int tray, int p) {
        if (!isTray(tray) || !isPair(p)) {
            return NO_SUCH;
        }
        Tray gaps = trays[tray];
        if (gaps.missing) {
            return NO_TRAY;
        }
        if (gaps.size < 1 || gaps.size > MOST_SEEN) {
            return TOO_MANY;
        }
        for (int i = 0; i < gaps.size; i++) {
            if (gaps.at(i) < NONE || gaps.at(i) > WIDEST_GAP) {
                return BAD_NUMBER;
            }
        }
        return 0;
    }

    private void traceSeen(int tray, int p) {
        tuned();
        dryRows.trace(trays[tray], p, now.state, now.leading);
    }

    private int chalkBits(int tray, int p) {
        int bits = 0;
        for (int n = 0; n <= MOST_CHALK; n++) {
            course.tune(cave, withDigit(now.chalks, p, n));
            if (walk.isSeenSo(trays[tray], p, now.state, now.leading)) {
                bits |= 1 << n;
            }
        }
        return bits;
    }

    /** Of some chalks, the greatest number by which a pair would grow as much as each other. */
    private int mostAlike(int chalkBits, int p, int drops) {
        Arrays.fill(alike, 0);
        int most = 0;
        for (int n = 0; n <= MOST_CHALK; n++) {
            if ((chalkBits >> n & 1) == 1) {
                course.tune(cave, withDigit(now.chalks, p, n));
                int growth = course.growth(p, drops, digit(now.state, p), cave.metCount(now.state), 0);
                int place = growth + WIDEST_GAP;
                if (place >= 0 && place < alike.length) {
                    alike[place]++;
                    most = Math.max(most, alike[place]);
                }
            }
        }
        return most;
    }

    // ---- by turns

    public int forces(int p) {
        if (!isPair(p)) {
            return NO_SUCH;
        }
        if (digit(now.state, p) == 0) {
            return 0;
        }
        return searching().forcedWithin(now.state, p);
    }

    public int best(int p) {
        if (!isPair(p)) {
            return NO_SUCH;
        }
        if (digit(now.state, p) == 0) {
            return NONE;
        }
        Search turns = searching();
        int years = turns.forcedWithin(now.state, p);
        return years == NONE ? NONE : turns.forcingLeading(now.state, p, years - 1);
    }

    // ---- chances

    public int chance(int p, int n, int what) {
        if (!isPair(p) || !isFractionPart(what)) {
            return NO_SUCH;
        }
        if (n < 0 || n > LONGEST_ROW) {
            return BAD_NUMBER;
        }
        weighYears(p, n);
        return fractionPart(dryRows.metWeight, dryRows.allWeight, what);
    }

    public int mean(int p, int n, int what) {
        if (!isPair(p) || !isFractionPart(what)) {
            return NO_SUCH;
        }
        if (n < 0 || n > LONGEST_ROW) {
            return BAD_NUMBER;
        }
        weighYears(p, n);
        return fractionPart(dryRows.gapWeight, dryRows.allWeight, what);
    }

    public int fallen(int n, int what) {
        if (!isFractionPart(what)) {
            return NO_SUCH;
        }
        if (n < 0 || n > LONGEST_ROW) {
            return BAD_NUMBER;
        }
        weighYears(0, n);
        return fractionPart(dryRows.fallenWeight, dryRows.allWeight, what);
    }

    private static boolean isFractionPart(int what) {
        return what == 0 || what == 1;
    }

    private void weighYears(int p, int n) {
        tuned();
        dryRows.weigh(p, n, now.state, now.leading);
    }

    private static int fractionPart(long above, long below, int what) {
        long common = below;
        long rest = above;
        for (int i = 0; i < 100 && rest != 0; i++) {
            long next = common % rest;
            common = rest;
            rest = next;
        }
        if (common == 0) {
            return 0;
        }
        return (int) ((what == 0 ? above : below) / common);
    }

    // ---- trays, images

    public int numbers(int tray, int sort, int n) {
        if (!isTray(tray) || sort < 0 || sort >= SORTS) {
            return NO_SUCH;
        }
        if (n < 0 || n > TRAY_PLACES) {
            return BAD_NUMBER;
        }
        trays[tray].renew(sort, n);
        return 0;
    }

    public long write(int tray, int i, long v) {
        if (!isTray(tray)) {
            return NO_SUCH;
        }
        Tray into = trays[tray];
        if (into.missing) {
            return NO_TRAY;
        }
        if (i < 0 || i >= into.size) {
            return NO_PLACE;
        }
        into.put(i, v);
        return into.at(i);
    }

    public int lists(int tray, int p) {
        if (!isTray(tray) || !isPair(p)) {
            return NO_SUCH;
        }
        Tray into = trays[tray];
        if (into.missing) {
            return NO_TRAY;
        }
        tuned();
        int state = now.state;
        for (int i = 0; i < into.size; i++) {
            state = course.after(state, now.leading, 0);
            into.put(i, digit(state, p));
        }
        return into.size;
    }

    public int image(int i) {
        if (i < 0 || i >= IMAGES) {
            return NO_SUCH;
        }
        imageCaves[i] = cave;
        imageStands[i].copy(now);
        return 0;
    }

    public int restore(int i) {
        if (i < 0 || i >= IMAGES) {
            return NO_SUCH;
        }
        Cave kept = imageCaves[i];
        if (kept == null) {
            return NOT_NOW;
        }
        cave = kept;
        now.copy(imageStands[i]);
        past.forget();
        return 0;
    }

    public int count(int what) {
        switch (what) {
            case 0:
                return cave.pairs;
            case 1:
                return cave.drops;
            case 2:
                return cave.metBits(now.state);
            case 3:
                return cave.gapSum(now.state);
            case 4:
                return now.leading;
            case 5:
                return now.state >= FALLEN ? 1 : 0;
            case 6:
                return now.years;
            case 7:
                return past.size;
            case 8:
                return taped;
            case 9:
                return cave.lines;
            default:
                return NONE;
        }
    }

    private static boolean isTray(int tray) {
        return tray >= 0 && tray < TRAYS;
    }

    // ---- numbers of all pairs in one

    private static int digit(int code, int p) {
        return p < 0 || p >= MOST_PAIRS ? 0 : code / TENS[p] % 10;
    }

    private static int withDigit(int code, int p, int digit) {
        return p < 0 || p >= MOST_PAIRS ? code : code + (digit - digit(code, p)) * TENS[p];
    }

    private static int dropsOf(int leading, int p) {
        return p < 0 || p >= MOST_PAIRS ? 0 : leading / FIVES[p] % 5;
    }

    /** The cave as its text tells it; never changed, so that images can share it. */
    private static final class Cave {
        final int pairs;
        final int drops;
        final int dryness;
        final int lines;
        final int gaps;
        final int chalks;
        final int leading;
        final Law grows;
        final Law falls;
        /** All leadings, the least first. */
        final int[] leadings;
        /** By leadings, then by pairs: where in a row of shares, by pairs and drops, the pair's is. */
        final int[] shareAt;

        Cave(Parser told) {
            pairs = Math.min(told.pairs, MOST_PAIRS);
            drops = Math.min(told.drops, MOST_DROPS);
            dryness = told.dryness;
            lines = told.lines;
            gaps = told.gaps;
            chalks = told.chalks;
            grows = told.grows;
            falls = told.falls;
            int unled = pairs > 0 ? drops : 0;
            leading = told.leading == NONE ? unled : told.leading;
            leadings = listLeadings(pairs, drops);
            shareAt = new int[leadings.length * MOST_PAIRS];
            for (int i = 0; i < shareAt.length; i++) {
                int p = i % MOST_PAIRS;
                shareAt[i] = p * SHARES + dropsOf(leadings[i / MOST_PAIRS], p);
            }
        }

        private static int[] listLeadings(int pairs, int drops) {
            int[] all = new int[MOST_LEADINGS];
            int size = 0;
            int limit = pairs < MOST_PAIRS ? FIVES[Math.max(pairs, 0)] : LEADING_NUMBERS;
            int together = pairs > 0 ? drops : 0;
            for (int number = 0; number < limit && size < MOST_LEADINGS; number++) {
                if (allDrops(number) == together) {
                    all[size] = number;
                    size++;
                }
            }
            return Arrays.copyOf(all, size);
        }

        private static int allDrops(int leading) {
            int all = 0;
            for (int p = 0; p < MOST_PAIRS; p++) {
                all += dropsOf(leading, p);
            }
            return all;
        }

        boolean isLeading(int number) {
            for (int i = 0; i < leadings.length; i++) {
                if (leadings[i] == number) {
                    return true;
                }
            }
            return false;
        }

        int leadingAt(int place) {
            return place >= 0 && place < leadings.length ? leadings[place] : NONE;
        }

        int metBits(int state) {
            int bits = 0;
            for (int p = 0; p < pairs; p++) {
                if (digit(state, p) == 0) {
                    bits |= 1 << p;
                }
            }
            return bits;
        }

        int metCount(int state) {
            int met = 0;
            for (int p = 0; p < pairs; p++) {
                met += digit(state, p) == 0 ? 1 : 0;
            }
            return met;
        }

        int gapSum(int state) {
            int sum = 0;
            for (int p = 0; p < pairs; p++) {
                sum += digit(state, p);
            }
            return sum;
        }

        int widestGap(int state) {
            int widest = 0;
            for (int p = 0; p < pairs; p++) {
                widest = Math.max(widest, digit(state, p));
            }
            return widest;
        }
    }

    /**
     * A law, its parts behind one another so that no part has to be looked into: a number of 0 and
     * more puts itself on the stack, a word what is known by it, an operation what it makes of the
     * topmost ones.
     */
    private static final class Law {
        static final int MET = -1;
        static final int DRY = -2;
        static final int PAIR = -3;
        static final int CHALK = -4;
        static final int DROPS = -5;
        static final int GAP = -6;
        static final int GAPS = -7;
        static final int WIDEST = -8;
        static final int WORDS = 8;
        static final int PLUS = -11;
        static final int MINUS = -12;
        static final int TIMES = -13;
        static final int EQUAL = -14;
        static final int LESS = -15;
        static final int MORE = -16;
        static final int AND = -17;
        static final int OR = -18;
        static final int NOT = -19;
        static final int CHOICE = -20;
        /** Six within one another hold 36 numbers back at most. */
        static final int STACK = 64;
        private static final int BOUND = 1000000;

        private final int[] parts;

        Law(int[] told, int length) {
            parts = Arrays.copyOf(told, length);
        }

        static int placeOf(int word) {
            return -1 - word;
        }

        int tell(int[] known, int[] stack) {
            int top = 0;
            for (int i = 0; i < parts.length; i++) {
                int part = parts[i];
                int taken = takes(part);
                top -= taken;
                if (top < 0 || top + Math.max(taken, 1) > stack.length) {
                    return 0;
                }
                if (part >= 0) {
                    stack[top] = part;
                } else if (taken == 0) {
                    stack[top] = placeOf(part) < known.length ? known[placeOf(part)] : 0;
                } else if (part == NOT) {
                    stack[top] = 1 - stack[top];
                } else if (part == CHOICE) {
                    stack[top] = stack[top] == 1 ? stack[top + 1] : stack[top + 2];
                } else {
                    stack[top] = join(part, stack[top], stack[top + 1]);
                }
                top++;
            }
            return top == 1 ? stack[0] : 0;
        }

        private static int takes(int part) {
            if (part > PLUS) {
                return 0;
            }
            if (part == NOT) {
                return 1;
            }
            return part == CHOICE ? 3 : 2;
        }

        private static int join(int operation, long left, long right) {
            long made;
            switch (operation) {
                case PLUS:
                    made = left + right;
                    break;
                case MINUS:
                    made = left - right;
                    break;
                case TIMES:
                    made = left * right;
                    break;
                case EQUAL:
                    made = left == right ? 1 : 0;
                    break;
                case LESS:
                    made = left < right ? 1 : 0;
                    break;
                case MORE:
                    made = left > right ? 1 : 0;
                    break;
                case AND:
                    made = left & right;
                    break;
                default:
                    made = left | right;
                    break;
            }
            if (made > BOUND) {
                return BOUND;
            }
            return made < -BOUND ? -BOUND : (int) made;
        }
    }

    /** Goes along a text from token to token. */
    private static final class Reader {
        static final int END = 0;
        static final int WORD = 1;
        static final int NUMBER = 2;
        static final int SIGN = 3;
        /** No token begins so. */
        static final int NOTHING = 4;
        private static final String SIGNS = ";:+-*()[]=<>";

        private byte[] text = new byte[0];
        private int length = 0;
        private int end = 0;
        int kind = END;
        int place = 0;
        int value = 0;

        void open(byte[] bytes, int size) {
            text = bytes;
            length = Math.min(size, bytes.length);
            end = 0;
            advance();
        }

        void advance() {
            while (end < length && (text[end] == ' ' || text[end] == '\n')) {
                end++;
            }
            place = end;
            if (end >= length) {
                kind = END;
            } else if (text[end] >= 'a' && text[end] <= 'z') {
                readWord();
            } else if (text[end] >= '0' && text[end] <= '9') {
                readNumber();
            } else {
                kind = text[end] > 0 && SIGNS.indexOf((char) text[end]) >= 0 ? SIGN : NOTHING;
                end++;
            }
        }

        private void readWord() {
            kind = WORD;
            while (end < length && text[end] >= 'a' && text[end] <= 'z') {
                end++;
            }
        }

        private void readNumber() {
            value = 0;
            while (end < length && text[end] >= '0' && text[end] <= '9') {
                value = end - place < 3 ? value * 10 + text[end] - '0' : value;
                end++;
            }
            kind = end - place > 3 ? NOTHING : NUMBER;
        }

        boolean isAt(String token) {
            if ((kind != WORD && kind != SIGN) || token.length() != end - place) {
                return false;
            }
            for (int i = 0; i < token.length() && place + i < length; i++) {
                if (text[place + i] != token.charAt(i)) {
                    return false;
                }
            }
            return true;
        }
    }

    /** Reads a cave from its text, up to the first fault. */
    private static final class Parser {
        private static final int NO_TOKEN = 1;
        private static final int OUT_OF_PLACE = 2;
        private static final int OUT_OF_BOUNDS = 3;
        private static final int ONE_TOO_MANY = 4;
        private static final int DEEPEST = 6;
        private static final int MOST_DRYNESS = 10;

        private final Reader reader = new Reader();
        private final int[] parts = new int[TEXT_BYTES];
        private int size = 0;
        private boolean tellsGrowth = false;
        private int number = 0;
        int faultKind = 0;
        int faultPlace = NONE;
        int lines = 0;
        int pairs = 0;
        int drops = 0;
        int dryness = 0;
        int gaps = 0;
        int chalks = 0;
        int leading = NONE;
        Law grows = null;
        Law falls = null;

        /** The cave that a text tells, null if it has a fault. */
        Cave read(byte[] text, int length) {
            forget();
            reader.open(text, length);
            boolean told = tellCave();
            for (int i = 0; i < length && told && reader.kind != Reader.END; i++) {
                told = tellLine();
            }
            return told ? new Cave(this) : null;
        }

        private void forget() {
            faultKind = 0;
            faultPlace = NONE;
            lines = 0;
            pairs = 0;
            drops = 0;
            dryness = 0;
            gaps = 0;
            chalks = 0;
            leading = NONE;
            grows = null;
            falls = null;
        }

        /** Of a place where no token begins that is the fault, whatever else it would be. */
        private boolean refuse(int kind) {
            faultKind = reader.kind == Reader.NOTHING ? NO_TOKEN : kind;
            faultPlace = reader.place;
            return false;
        }

        private boolean take(String token) {
            if (!reader.isAt(token)) {
                return refuse(OUT_OF_PLACE);
            }
            reader.advance();
            return true;
        }

        private boolean takeNumber(int most) {
            if (reader.kind != Reader.NUMBER) {
                return refuse(OUT_OF_PLACE);
            }
            if (reader.value > most) {
                return refuse(OUT_OF_BOUNDS);
            }
            number = reader.value;
            reader.advance();
            return true;
        }

        private boolean tellCave() {
            if (!take("cave") || !take("drops") || !takeNumber(MOST_DROPS)) {
                return false;
            }
            drops = number;
            lines = 1;
            return take(";");
        }

        private boolean tellLine() {
            boolean told;
            if (reader.isAt("pair")) {
                told = tellPair();
            } else if (reader.isAt("lead")) {
                told = tellLead();
            } else if (reader.isAt("dry")) {
                told = tellDry();
            } else if (reader.isAt("grows")) {
                told = tellGrows();
            } else if (reader.isAt("falls")) {
                told = tellFalls();
            } else {
                told = refuse(OUT_OF_PLACE);
            }
            lines++;
            return told && take(";");
        }

        private boolean tellPair() {
            if (leading != NONE) {
                return refuse(OUT_OF_PLACE);
            }
            if (pairs >= MOST_PAIRS) {
                return refuse(ONE_TOO_MANY);
            }
            reader.advance();
            if (!take("gap") || !takeNumber(WIDEST_GAP)) {
                return false;
            }
            gaps += number * TENS[pairs];
            int chalk = 1;
            for (int i = 0; i < TEXT_BYTES && reader.isAt("chalk"); i++) {
                reader.advance();
                if (!takeNumber(MOST_CHALK)) {
                    return false;
                }
                chalk = number;
            }
            chalks += chalk * TENS[pairs];
            pairs++;
            return true;
        }

        private boolean tellLead() {
            if (pairs == 0) {
                return refuse(OUT_OF_PLACE);
            }
            reader.advance();
            int led = 0;
            int told = 0;
            for (int p = 0; p < pairs && p < MOST_PAIRS; p++) {
                boolean last = p == pairs - 1;
                if (last && reader.kind == Reader.NUMBER && led + reader.value < drops) {
                    return refuse(OUT_OF_BOUNDS);
                }
                if (!takeNumber(drops - led)) {
                    return false;
                }
                led += number;
                told += number * FIVES[p];
            }
            leading = told;
            return true;
        }

        private boolean tellDry() {
            reader.advance();
            if (!takeNumber(MOST_DRYNESS)) {
                return false;
            }
            dryness = number;
            return true;
        }

        private boolean tellGrows() {
            reader.advance();
            size = 0;
            tellsGrowth = true;
            if (!take(":") || !sum(0)) {
                return false;
            }
            grows = new Law(parts, size);
            return true;
        }

        private boolean tellFalls() {
            reader.advance();
            size = 0;
            tellsGrowth = false;
            if (!take(":") || !truth(0)) {
                return false;
            }
            falls = new Law(parts, size);
            return true;
        }

        private void put(int part) {
            if (size < parts.length) {
                parts[size] = part;
                size++;
            }
        }

        private boolean sum(int depth) {
            boolean told = term(depth);
            for (int i = 0; i < TEXT_BYTES && told && isAtPlusOrMinus(); i++) {
                int operation = reader.isAt("+") ? Law.PLUS : Law.MINUS;
                reader.advance();
                told = term(depth);
                put(operation);
            }
            return told;
        }

        private boolean isAtPlusOrMinus() {
            return reader.isAt("+") || reader.isAt("-");
        }

        private boolean term(int depth) {
            boolean told = atom(depth);
            for (int i = 0; i < TEXT_BYTES && told && reader.isAt("*"); i++) {
                reader.advance();
                told = atom(depth);
                put(Law.TIMES);
            }
            return told;
        }

        private boolean atom(int depth) {
            if (reader.isAt("(")) {
                return goInto(depth) && sum(depth + 1) && take(")");
            }
            if (reader.isAt("if")) {
                return choice(depth);
            }
            int part = reader.kind == Reader.NUMBER ? reader.value : word();
            if (part == Law.NOT) {
                return refuse(OUT_OF_PLACE);
            }
            put(part);
            reader.advance();
            return true;
        }

        private boolean choice(int depth) {
            if (!goInto(depth) || !truth(depth + 1) || !take("then") || !sum(depth + 1)) {
                return false;
            }
            if (!take("else") || !sum(depth + 1) || !take("end")) {
                return false;
            }
            put(Law.CHOICE);
            return true;
        }

        /** The first token of what is within another: gone past, unless it is too deep. */
        private boolean goInto(int depth) {
            if (depth >= DEEPEST) {
                return refuse(ONE_TOO_MANY);
            }
            reader.advance();
            return true;
        }

        /** The word of the law that the reader is at, NOT if it is none. */
        private int word() {
            if (reader.isAt("met")) {
                return Law.MET;
            }
            if (reader.isAt("dry")) {
                return Law.DRY;
            }
            return tellsGrowth ? wordOfGrows() : wordOfFalls();
        }

        private int wordOfGrows() {
            if (reader.isAt("pair")) {
                return Law.PAIR;
            }
            if (reader.isAt("chalk")) {
                return Law.CHALK;
            }
            if (reader.isAt("drops")) {
                return Law.DROPS;
            }
            return reader.isAt("gap") ? Law.GAP : Law.NOT;
        }

        private int wordOfFalls() {
            if (reader.isAt("gaps")) {
                return Law.GAPS;
            }
            return reader.isAt("widest") ? Law.WIDEST : Law.NOT;
        }

        private boolean truth(int depth) {
            boolean told = both(depth);
            for (int i = 0; i < TEXT_BYTES && told && reader.isAt("or"); i++) {
                reader.advance();
                told = both(depth);
                put(Law.OR);
            }
            return told;
        }

        private boolean both(int depth) {
            boolean told = unit(depth);
            for (int i = 0; i < TEXT_BYTES && told && reader.isAt("and"); i++) {
                reader.advance();
                told = unit(depth);
                put(Law.AND);
            }
            return told;
        }

        private boolean unit(int depth) {
            if (reader.isAt("not")) {
                boolean told = goInto(depth) && unit(depth + 1);
                put(Law.NOT);
                return told;
            }
            if (reader.isAt("[")) {
                return goInto(depth) && truth(depth + 1) && take("]");
            }
            return sum(depth) && comparison(depth);
        }

        private boolean comparison(int depth) {
            int operation = Law.EQUAL;
            if (reader.isAt("<")) {
                operation = Law.LESS;
            } else if (reader.isAt(">")) {
                operation = Law.MORE;
            } else if (!reader.isAt("=")) {
                return refuse(OUT_OF_PLACE);
            }
            reader.advance();
            boolean told = sum(depth);
            put(operation);
            return told;
        }
    }

    /** How a cave stands: all that deeds change and undoing brings back. */
    private static final class Stand {
        int state = 0;
        int chalks = 0;
        int leading = 0;
        int years = 0;

        void begin(Cave cave) {
            state = cave.gaps;
            chalks = cave.chalks;
            leading = cave.leading;
            years = 0;
        }

        void copy(Stand other) {
            state = other.state;
            chalks = other.chalks;
            leading = other.leading;
            years = other.years;
        }
    }

    /** The stands ahead of the latest calls that did some; a new one takes the place of the eldest. */
    private static final class Past {
        private final Stand[] stands = new Stand[UNDOABLE];
        private int next = 0;
        int size = 0;

        Past() {
            for (int i = 0; i < UNDOABLE; i++) {
                stands[i] = new Stand();
            }
        }

        void remember(Stand stand) {
            stands[next].copy(stand);
            next = (next + 1) % UNDOABLE;
            size = Math.min(size + 1, UNDOABLE);
        }

        void bringBack(Stand stand) {
            if (size > 0) {
                next = (next + UNDOABLE - 1) % UNDOABLE;
                stand.copy(stands[next]);
                size--;
            }
        }

        void forget() {
            size = 0;
        }
    }

    private static final class Tray {
        private final long[] places = new long[TRAY_PLACES];
        private int sort = 0;
        boolean missing = true;
        int size = 0;

        void renew(int newSort, int newSize) {
            Arrays.fill(places, 0L);
            sort = newSort;
            size = Math.min(newSize, TRAY_PLACES);
            missing = false;
        }

        long at(int i) {
            return i >= 0 && i < size ? places[i] : 0;
        }

        void put(int i, long v) {
            if (i >= 0 && i < size) {
                places[i] = cut(v);
            }
        }

        private long cut(long v) {
            switch (sort) {
                case 0:
                    return (byte) v;
                case 1:
                    return (short) v;
                case 2:
                    return (int) v;
                default:
                    return v;
            }
        }
    }

    /**
     * What a year makes of a state. What the laws told is kept, since searches ask the same again
     * and again.
     */
    private static final class Course {
        private final int[] known = new int[Law.WORDS];
        private final int[] stack = new int[Law.STACK];
        /** By met, pair, drops, gap, dry: 10 more than the growth, 0 if it hasn't been asked. */
        private final byte[] growths = new byte[(MOST_PAIRS + 1) * MOST_PAIRS * SHARES * 10 * 2];
        /** By gaps, dry: 1 if the roof falls, -1 if not, 0 if it hasn't been asked. */
        private final byte[] fallings = new byte[2 * FALLEN];
        private final int[] shares = new int[MOST_PAIRS * SHARES];
        private Cave cave;
        private int chalks = 0;

        Course(Cave first) {
            cave = first;
        }

        /**
         * To be told ahead of all else: of which cave, with which chalk, the rest is asked. A cave
         * without a law left nothing in the law's row.
         */
        void tune(Cave told, int toldChalks) {
            if (cave != told && cave.falls != null) {
                Arrays.fill(fallings, (byte) 0);
            }
            if ((cave != told || chalks != toldChalks) && cave.grows != null) {
                Arrays.fill(growths, (byte) 0);
            }
            cave = told;
            chalks = toldChalks;
        }

        Cave tunedTo() {
            return cave;
        }

        int growth(int p, int drops, int gap, int met, int dry) {
            if (cave.grows == null) {
                return dry == 1 ? 0 : drops;
            }
            int slot = (((met * MOST_PAIRS + p) * SHARES + drops) * 10 + gap) * 2 + dry;
            if (slot < 0 || slot >= growths.length) {
                return 0;
            }
            if (growths[slot] == 0) {
                know(Law.MET, met);
                know(Law.DRY, dry);
                know(Law.PAIR, p);
                know(Law.CHALK, digit(chalks, p));
                know(Law.DROPS, drops);
                know(Law.GAP, gap);
                int told = cave.grows.tell(known, stack);
                growths[slot] = (byte) (10 + Math.max(-WIDEST_GAP, Math.min(WIDEST_GAP, told)));
            }
            return growths[slot] - 10;
        }

        private void know(int word, int value) {
            known[Law.placeOf(word)] = value;
        }

        private boolean collapses(int gaps, int dry) {
            if (cave.falls == null) {
                return false;
            }
            int slot = gaps + dry * FALLEN;
            if (slot < 0 || slot >= fallings.length) {
                return false;
            }
            if (fallings[slot] == 0) {
                know(Law.MET, cave.metCount(gaps));
                know(Law.DRY, dry);
                know(Law.GAPS, cave.gapSum(gaps));
                know(Law.WIDEST, cave.widestGap(gaps));
                fallings[slot] = (byte) (cave.falls.tell(known, stack) == 1 ? 1 : -1);
            }
            return fallings[slot] == 1;
        }

        /** The state behind a year. */
        int after(int state, int leading, int dry) {
            if (state >= FALLEN) {
                return state;
            }
            int met = cave.metCount(state);
            int gaps = 0;
            for (int p = 0; p < cave.pairs; p++) {
                int gap = digit(state, p);
                if (gap > 0) {
                    gaps += kept(gap - growth(p, dropsOf(leading, p), gap, met, dry)) * TENS[p];
                }
            }
            return collapses(gaps, dry) ? gaps + FALLEN : gaps;
        }

        static int kept(int gap) {
            return gap < 0 ? 0 : Math.min(gap, WIDEST_GAP);
        }

        /** The states behind a year, by all leadings in turn, of gaps under a roof that holds. */
        void spread(int gaps, int dry, int[] into) {
            if (into.length < cave.leadings.length) {
                return;
            }
            int met = cave.metCount(gaps);
            for (int p = 0; p < cave.pairs; p++) {
                int gap = digit(gaps, p);
                for (int drops = 0; drops <= cave.drops; drops++) {
                    int left = gap == 0 ? 0 : kept(gap - growth(p, drops, gap, met, dry));
                    shares[p * SHARES + drops] = left * TENS[p];
                }
            }
            int[] shareAt = cave.shareAt;
            boolean mayFall = cave.falls != null;
            for (int k = 0; k < cave.leadings.length; k++) {
                int next = 0;
                for (int i = k * MOST_PAIRS; i < k * MOST_PAIRS + cave.pairs; i++) {
                    next += shares[shareAt[i]];
                }
                into[k] = mayFall && collapses(next, dry) ? next + FALLEN : next;
            }
        }
    }

    /** Years as it is led, one behind the other. */
    private static final class Walk {
        private final Course course;
        private int leading = 0;
        private int state = 0;
        private int years = 0;
        private int anchor = 0;
        private int anchorYear = 0;
        private int span = 1;

        Walk(Course course) {
            this.course = course;
        }

        private void start(int from, int ledSo) {
            leading = ledSo;
            state = from;
            years = 0;
            anchor = from;
            anchorYear = 0;
            span = 1;
        }

        /**
         * Goes a year on: whether it may be new what is there. States come round again, and are then
         * met by an anchor that is set anew in spans each twice as long.
         */
        private boolean step() {
            state = course.after(state, leading, 0);
            years++;
            if (state == anchor) {
                return false;
            }
            if (years - anchorYear == span) {
                anchor = state;
                anchorYear = years;
                span *= 2;
            }
            return true;
        }

        int stateBehind(int from, int ledSo, int n) {
            start(from, ledSo);
            boolean fresh = true;
            for (int i = 0; i < n && fresh; i++) {
                fresh = step();
            }
            int round = years - anchorYear;
            int left = fresh || round <= 0 ? 0 : (n - years) % round;
            for (int i = 0; i < left; i++) {
                state = course.after(state, leading, 0);
            }
            return state;
        }

        /** By pairs, in how many years each meets, NONE if it never does. */
        void tellMeetings(int from, int ledSo, int[] into) {
            Arrays.fill(into, NONE);
            start(from, ledSo);
            Cave cave = course.tunedTo();
            boolean fresh = true;
            for (int i = 0; i <= FARTHEST_YEAR && fresh; i++) {
                for (int p = 0; p < cave.pairs && p < into.length; p++) {
                    if (into[p] == NONE && digit(state, p) == 0) {
                        into[p] = years;
                    }
                }
                fresh = cave.gapSum(state) > 0 && step();
            }
        }

        int yearsTillFall(int from, int ledSo) {
            start(from, ledSo);
            boolean fresh = true;
            for (int i = 0; i <= FARTHEST_YEAR && fresh; i++) {
                if (state >= FALLEN) {
                    return years;
                }
                fresh = step();
            }
            return NONE;
        }

        /** Whether a pair's gaps are as they were seen, where they were. */
        boolean isSeenSo(Tray seen, int p, int from, int ledSo) {
            int at = from;
            for (int i = 0; i < seen.size; i++) {
                at = course.after(at, ledSo, 0);
                if (seen.at(i) != NONE && seen.at(i) != digit(at, p)) {
                    return false;
                }
            }
            return true;
        }
    }

    /** Rows of years, dry or not, with one leading: which bring what was seen, how likely they are. */
    private static final class DryRows {
        private final Course course;
        private int pair = 0;
        private int leading = 0;
        private int dryness = 0;
        int found = 0;
        /** Years of the first row found that are dry, as bits. */
        int first = 0;
        int alwaysDry = 0;
        int neverDry = 0;
        long metWeight = 0;
        long gapWeight = 0;
        long fallenWeight = 0;
        long allWeight = 0;

        DryRows(Course course) {
            this.course = course;
        }

        void trace(Tray gaps, int p, int state, int ledSo) {
            pair = p;
            leading = ledSo;
            found = 0;
            first = 0;
            alwaysDry = (1 << gaps.size) - 1;
            neverDry = alwaysDry;
            follow(gaps, 0, state, 0);
        }

        private void follow(Tray wanted, int depth, int state, int bits) {
            if (depth > MOST_SEEN) {
                return;
            }
            if (depth >= wanted.size) {
                first = found == 0 ? bits : first;
                found++;
                alwaysDry &= bits;
                neverDry &= ~bits;
                return;
            }
            for (int dry = 0; dry <= 1; dry++) {
                int next = course.after(state, leading, dry);
                if (wanted.at(depth) == NONE || wanted.at(depth) == digit(next, pair)) {
                    follow(wanted, depth + 1, next, bits | dry << depth);
                }
            }
        }

        /** The weights are in tenths of tenths, once for each year. */
        void weigh(int p, int years, int state, int ledSo) {
            dryness = course.tunedTo().dryness;
            pair = p;
            leading = ledSo;
            metWeight = 0;
            gapWeight = 0;
            fallenWeight = 0;
            allWeight = 0;
            spreadWeight(years, state, 1);
        }

        private void spreadWeight(int years, int state, long weight) {
            if (weight == 0 || years > LONGEST_ROW) {
                return;
            }
            if (years <= 0) {
                allWeight += weight;
                gapWeight += weight * digit(state, pair);
                metWeight += digit(state, pair) == 0 ? weight : 0;
                fallenWeight += state >= FALLEN ? weight : 0;
                return;
            }
            spreadWeight(years - 1, course.after(state, leading, 0), weight * (10 - dryness));
            spreadWeight(years - 1, course.after(state, leading, 1), weight * dryness);
        }
    }

    /** Looks through the states that leadings can bring. */
    private static final class Search {
        /** Goals of 0 and more: sets that have to meet. */
        static final int FELLING = -1;
        static final int EVERYTHING = -2;
        private static final int NEVER = STATES;

        private final Course course;
        private Cave cave;
        private int chalks = 0;
        /** A state has been come to if its mark is the latest stamp. */
        private final int[] marks = new int[STATES];
        private int stamp = 0;
        private final int[] queue = new int[STATES];
        /** By states: where from and by which leading one came there, or how far or forced it is. */
        private final int[] links = new int[STATES];
        /** By states: how many ways lead into one. */
        private final int[] entries = new int[STATES];
        private final long[] counts = new long[STATES];
        private final int[] wet = new int[MOST_LEADINGS];
        private final int[] dry = new int[MOST_LEADINGS];
        private final int[] least = new int[WIDEST_GAP + 1];
        int reached = 0;
        /** What was explored last need not be again, since a way is asked for year by year. */
        private boolean explored = false;
        private int exploredFrom = 0;
        private int exploredFor = 0;
        private int exploredGoal = NONE;

        Search(Course course, Cave first) {
            this.course = course;
            cave = first;
        }

        void tune(Cave told, int toldChalks) {
            course.tune(told, toldChalks);
            explored = explored && cave == told && chalks == toldChalks;
            cave = told;
            chalks = toldChalks;
        }

        private void begin() {
            explored = false;
            stamp++;
            reached = 0;
        }

        private static boolean isState(int state) {
            return state >= 0 && state < STATES;
        }

        private boolean isNew(int state) {
            return isState(state) && marks[state] != stamp;
        }

        private void reach(int state, int link) {
            if (isState(state) && reached < STATES) {
                marks[state] = stamp;
                links[state] = link;
                entries[state] = 0;
                queue[reached] = state;
                reached++;
            }
        }

        private int linkOf(int state) {
            return isState(state) ? links[state] : NONE;
        }

        private boolean isGoal(int state, int goal) {
            if (goal >= 0) {
                return (cave.metBits(state) & goal) == goal;
            }
            return goal == FELLING && state >= FALLEN;
        }

        /**
         * Reaches states, the nearest first and of like ones those of the first row, till one is the
         * goal: that one, NONE if none is.
         */
        int explore(int start, int goal) {
            if (!explored || exploredFrom != start || exploredFor != goal) {
                exploredGoal = reachGoal(start, goal);
                exploredFrom = start;
                exploredFor = goal;
                explored = true;
            }
            return exploredGoal;
        }

        private int reachGoal(int start, int goal) {
            begin();
            reach(start, NONE);
            if (isGoal(start, goal)) {
                return start;
            }
            for (int head = 0; head < reached && head < STATES; head++) {
                int state = queue[head];
                if (state >= FALLEN) {
                    continue;
                }
                course.spread(state, 0, wet);
                for (int k = 0; k < cave.leadings.length; k++) {
                    int next = wet[k];
                    if (isNew(next)) {
                        reach(next, state * MOST_LEADINGS + k);
                        if (isGoal(next, goal)) {
                            return next;
                        }
                    }
                    if (isState(next)) {
                        entries[next]++;
                    }
                }
            }
            return NONE;
        }

        /** How many years it took to come to a state. */
        int lengthTo(int state) {
            if (state == NONE) {
                return NONE;
            }
            int length = 0;
            int link = linkOf(state);
            while (link != NONE && length < STATES) {
                link = linkOf(link / MOST_LEADINGS);
                length++;
            }
            return length;
        }

        /** The leading of the i-th year on the way to a state. */
        int leadingTo(int state, int i) {
            int length = lengthTo(state);
            if (i >= length) {
                return NONE;
            }
            int link = linkOf(state);
            for (int year = length - 1; year > i; year--) {
                link = linkOf(link / MOST_LEADINGS);
            }
            return cave.leadingAt(link % MOST_LEADINGS);
        }

        /** The most that have met in what was explored. */
        int mostMet() {
            int most = 0;
            for (int i = 0; i < reached; i++) {
                most = Math.max(most, cave.metCount(queue[i]));
            }
            return most;
        }

        /**
         * The longest row under a roof that holds, NONE if there is no end to it, once everything has
         * been explored. A state is looked at when all ways into it have been, so that one which
         * comes round again never is.
         */
        int longestHold(int start) {
            int holding = 0;
            for (int i = 0; i < reached; i++) {
                holding += queue[i] < FALLEN ? 1 : 0;
            }
            if (!isState(start) || entries[start] > 0) {
                return NONE;
            }
            begin();
            reach(start, 0);
            int longest = 0;
            for (int head = 0; head < reached && head < STATES; head++) {
                int state = queue[head];
                longest = linkOf(state);
                course.spread(state, 0, wet);
                for (int k = 0; k < cave.leadings.length; k++) {
                    leaveFor(wet[k], longest + 1);
                }
            }
            return reached < holding ? NONE : longest;
        }

        private void leaveFor(int next, int length) {
            if (isState(next)) {
                entries[next]--;
                if (next < FALLEN && entries[next] == 0) {
                    reach(next, length);
                }
            }
        }

        /**
         * How many rows of so many years there are behind which a set has met. The states of one
         * year are in one half of the queue, those of the next in the other; a set that has met
         * stays so by all leadings that are left.
         */
        long countRows(int start, int set, int years) {
            if (!isState(start)) {
                return 0;
            }
            long rows = 0;
            int half = 0;
            int size = 1;
            queue[0] = start;
            counts[start % FALLEN] = 1;
            for (int left = years; left >= 0; left--) {
                int other = FALLEN - half;
                begin();
                for (int i = 0; i < size; i++) {
                    int state = queue[half + i];
                    long count = counts[half + state % FALLEN];
                    if (isGoal(state, set)) {
                        rows += count * rowsOf(left);
                    } else if (state < FALLEN && left > 0) {
                        passOn(state, count, other);
                    }
                }
                half = other;
                size = reached;
            }
            return rows;
        }

        private long rowsOf(int years) {
            long rows = 1;
            for (int i = 0; i < years; i++) {
                rows *= cave.leadings.length;
            }
            return rows;
        }

        /** Behind a year, gaps tell whether the roof fell: one place for both is enough. */
        private void passOn(int state, long count, int half) {
            course.spread(state, 0, wet);
            for (int k = 0; k < cave.leadings.length; k++) {
                int next = wet[k];
                int place = half + next % FALLEN;
                if (isNew(next) && reached < FALLEN) {
                    marks[next] = stamp;
                    queue[half + reached] = next;
                    reached++;
                    counts[place] = 0;
                }
                if (isState(place)) {
                    counts[place] += count;
                }
            }
        }

        /** Within how few years a pair is forced to meet, NONE if it isn't. */
        int forcedWithin(int start, int p) {
            tellLeastYears(p);
            if (!isState(start) || start >= FALLEN || least[digit(start, p)] == NEVER) {
                return NONE;
            }
            reachByTurns(start, p);
            boolean more = true;
            for (int years = 1; years <= STATES && more; years++) {
                more = false;
                for (int i = 0; i < reached; i++) {
                    int state = queue[i];
                    boolean hopeful = linkOf(state) == 0 && least[digit(state, p)] <= years;
                    if (hopeful && forcingLeading(state, p, years - 1) != NONE) {
                        links[state] = years;
                        more = true;
                    }
                }
                if (linkOf(start) != 0) {
                    return years;
                }
            }
            return NONE;
        }

        /**
         * By the pair's gap alone, as if in each year as many others had met as the guide likes: it
         * takes so many years at least, and where even that is never, nothing need be looked at.
         */
        private void tellLeastYears(int p) {
            Arrays.fill(least, NEVER);
            least[0] = 0;
            for (int years = 1; years <= WIDEST_GAP; years++) {
                for (int gap = 1; gap <= WIDEST_GAP; gap++) {
                    if (least[gap] == NEVER && mayBeForced(p, gap, years - 1)) {
                        least[gap] = years;
                    }
                }
            }
        }

        private boolean mayBeForced(int p, int gap, int years) {
            for (int met = 0; met < cave.pairs; met++) {
                for (int drops = 0; drops <= cave.drops; drops++) {
                    int wetGap = Course.kept(gap - course.growth(p, drops, gap, met, 0));
                    int dryGap = Course.kept(gap - course.growth(p, drops, gap, met, 1));
                    if (least[wetGap] <= years && least[dryGap] <= years) {
                        return true;
                    }
                }
            }
            return false;
        }

        private void reachByTurns(int start, int p) {
            begin();
            reach(start, 0);
            for (int head = 0; head < reached && head < STATES; head++) {
                course.spread(queue[head], 0, wet);
                course.spread(queue[head], 1, dry);
                for (int k = 0; k < cave.leadings.length; k++) {
                    reachOpen(wet[k], p);
                    reachOpen(dry[k], p);
                }
            }
        }

        private void reachOpen(int state, int p) {
            int gap = digit(state, p);
            if (state < FALLEN && gap > 0 && least[gap] != NEVER && isNew(state)) {
                reach(state, 0);
            }
        }

        /** The first leading behind which a pair is forced within so many years, whatever the lamp does. */
        int forcingLeading(int state, int p, int years) {
            course.spread(state, 0, wet);
            course.spread(state, 1, dry);
            for (int k = 0; k < cave.leadings.length; k++) {
                if (isForced(wet[k], p, years) && isForced(dry[k], p, years)) {
                    return cave.leadings[k];
                }
            }
            return NONE;
        }

        private boolean isForced(int state, int p, int years) {
            if (digit(state, p) == 0) {
                return true;
            }
            boolean told = isState(state) && state < FALLEN && marks[state] == stamp;
            return told && links[state] != 0 && links[state] <= years;
        }
    }
}
