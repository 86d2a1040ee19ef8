/** Promises 1 to 15 at their edges: each bound of each argument on both sides, each code, which comes first. */
public final class DeedEdgesTest {
    private static final Due due = new Due();
    private static final String FOUR = "cave drops 4;pair gap 9;pair gap 8 chalk 0;pair gap 7 chalk 9;pair gap 0;lead 1 1 1 1;";
    private static final int LEAST = Integer.MIN_VALUE;
    private static final int GREATEST = Integer.MAX_VALUE;

    public static void main(String[] args) {
        newObject();
        newObjectRefuses();
        feed();
        feedBytes();
        cave();
        caveStays();
        fault();
        pair();
        grown();
        leadings();
        year();
        lead();
        saw();
        chalk();
        undo();
        undoEldest();
        undoRound();
        undoneAsAWhole();
        deeds();
        deedsByWhy();
        judge();
        perform();
        age();
        ageTimes();
        ageOfNone();
        due.end("DeedEdgesTest");
    }

    private static void is(int promise, String call, long got, long want) {
        due.is("promise " + promise + ": " + call, got, want);
    }

    // ---- 1

    private static void newObject() {
        StoneMeet x = new StoneMeet();
        for (int what = 0; what < 10; what++) {
            is(1, "count " + what, x.count(what), 0);
        }
        is(1, "fault(0)", x.fault(0), 0);
        is(1, "fault(1)", x.fault(1), -1);
        is(1, "leadings()", x.leadings(), 1);
        is(1, "order(0)", x.order(0), -1);
        is(1, "falls()", x.falls(), -1);
        is(1, "soonest(0)", x.soonest(0), 0);
        is(1, "way(0, 0)", x.way(0, 0), -1);
        for (int n = 0; n <= 8; n++) {
            is(1, "rows(0, " + n + ")", x.rows(0, n), 1);
            is(1, "fallen(" + n + ", 0)", x.fallen(n, 0), 0);
            is(1, "fallen(" + n + ", 1)", x.fallen(n, 1), 1);
        }
        is(1, "most()", x.most(), 0);
        is(1, "holding()", x.holding(), -1);
        is(1, "felling()", x.felling(), -1);
        is(1, "stands()", x.stands(), 1);
        is(1, "year(0)", x.year(0), 0);
        is(1, "year(1)", x.year(1), 0);
        is(1, "lead(0)", x.lead(0), 0);
        is(1, "undoable", x.count(7), 3);
        is(1, "years", x.count(6), 2);
        is(1, "image(0)", x.image(0), 0);
        is(1, "restore(0)", x.restore(0), 0);
    }

    private static void newObjectRefuses() {
        StoneMeet x = new StoneMeet();
        is(1, "pair(0, 0)", x.pair(0, 0), -2);
        is(1, "grown(0, 0, 0)", x.grown(0, 0, 0), -99000002);
        is(1, "lead(1)", x.lead(1), -11);
        is(1, "saw(0)", x.saw(0), -11);
        is(1, "chalk(0, 0)", x.chalk(0, 0), -11);
        is(1, "undo(1)", x.undo(1), -3);
        is(1, "lies(0, 0)", x.lies(0, 0), -2);
        is(1, "meets(0)", x.meets(0), -2);
        is(1, "moved(0, 0, 1)", x.moved(0, 0, 1), -99000002);
        is(1, "soonest(1)", x.soonest(1), -3);
        is(1, "way(1, 0)", x.way(1, 0), -3);
        is(1, "rows(1, 0)", x.rows(1, 0), -3);
        is(1, "forces(0)", x.forces(0), -2);
        is(1, "best(0)", x.best(0), -2);
        is(1, "chance(0, 0, 0)", x.chance(0, 0, 0), -2);
        is(1, "mean(0, 0, 0)", x.mean(0, 0, 0), -2);
        for (int t = 0; t < 4; t++) {
            is(1, "judge of tray " + t, x.judge(t, 0), -6);
            is(1, "perform of tray " + t, x.perform(t), -6);
            is(1, "write to tray " + t, x.write(t, 0, 1), -6);
            is(1, "seen in tray " + t, x.seen(t, 0), -2);
            is(1, "lists into tray " + t, x.lists(t, 0), -2);
        }
        is(1, "restore(0)", x.restore(0), -5);
        is(1, "restore(1)", x.restore(1), -5);
        is(1, "cave(1)", x.cave(1), -3);
        is(1, "nothing was done", x.count(6) + x.count(7) + x.count(8), 0);
    }

    // ---- 2

    private static void feed() {
        StoneMeet x = new StoneMeet();
        Due.tape(x, "cave drops 3;");
        for (int all = 40; all <= 880; all += 20) {
            is(2, "feed", x.feed(0x20202020, 0x0a0a0a0a, 0x200a200a, 0x20202020, 0x20202020), all);
            is(2, "on the tape", x.count(8), all);
        }
        is(2, "the last that has room", x.feed(0x20202020, 0x20202020, 0x20202020, 0x20202020, 0x20202020), 900);
        for (int i = 0; i < 3; i++) {
            is(2, "more than 900", x.feed(LEAST, -1, GREATEST, 0, 0x23232323), -5);
            is(2, "on the tape", x.count(8), 900);
        }
        is(2, "nothing else is on it", x.cave(900), 1);
        is(2, "empty then", x.count(8), 0);
        is(2, "room anew", x.feed(0, 0, 0, 0, 0), 20);
        is(2, "read by cave(0)", x.cave(0), -32);
        is(2, "empty then", x.feed(0, 0, 0, 0, 0), 20);
    }

    /** Each of the twenty bytes, behind those that are there: the highest of each int first. */
    private static void feedBytes() {
        for (int ahead = 0; ahead <= 880; ahead += ahead < 80 ? 20 : 200) {
            for (int k = 0; k < 20; k++) {
                StoneMeet x = new StoneMeet();
                for (int i = 0; i < ahead; i += 20) {
                    x.feed(0x20202020, 0x20202020, 0x20202020, 0x20202020, 0x20202020);
                }
                int[] f = {0x20202020, 0x20202020, 0x20202020, 0x20202020, 0x20202020};
                f[k / 4] ^= 0xe3 << 8 * (3 - k % 4);
                is(2, "feed", x.feed(f[0], f[1], f[2], f[3], f[4]), ahead + 20);
                is(2, "byte 195", x.cave(ahead + 20), -31);
                is(2, "its place", x.fault(1), ahead + k);
            }
        }
    }

    // ---- 3, 4

    private static void cave() {
        StoneMeet x = new StoneMeet();
        for (int n : Due.outside(0, 0)) {
            is(3, "cave(" + n + ") of an empty tape", x.cave(n), -3);
            is(4, "none was read", x.fault(0), 0);
            is(4, "none was read", x.fault(1), -1);
        }
        Due.tape(x, "cave drops 3;pair gap 2;");
        for (int n : Due.outside(0, 40)) {
            is(3, "cave(" + n + ") of 40 bytes", x.cave(n), -3);
            is(3, "the tape stays", x.count(8), 40);
            is(4, "none was read", x.fault(0), 0);
        }
        is(3, "cave(40)", x.cave(40), 2);
        is(3, "cave(40) again", x.cave(40), -3);
        is(3, "pairs", x.count(0), 1);
        for (int i = 0; i < 45; i++) {
            x.feed(0x23232323, 0x23232323, 0x23232323, 0x23232323, 0x23232323);
        }
        for (int n : Due.outside(0, 900)) {
            is(3, "cave(" + n + ") of 900 bytes", x.cave(n), -3);
            is(3, "the tape stays", x.count(8), 900);
        }
        is(4, "the latest that was read", x.fault(0), 0);
        is(3, "cave(900)", x.cave(900), -31);
        is(3, "empty then", x.count(8), 0);
        is(3, "all stays", x.count(0), 1);
        is(4, "fault", x.fault(0), 1);
        is(4, "place", x.fault(1), 0);
    }

    /** With a fault all stays, what can be undone too; without one nothing of the cave before is left. */
    private static void caveStays() {
        StoneMeet x = Due.caveOf("cave drops 2;pair gap 3 chalk 4;pair gap 4;lead 1 1;falls:gaps<4;");
        x.year(0);
        x.chalk(0, 9);
        x.lead(2);
        x.year(0);
        is(3, "fallen", x.count(5), 1);
        for (int kind = 1; kind <= 4; kind++) {
            String[] texts = {"cave drops 2;#", "cave drops 2;dry;", "cave drops 5;", "cave drops 1;" + "pair gap 1;".repeat(5)};
            is(3, "fault " + kind, Due.tell(x, texts[kind - 1]), -30 - kind);
            is(4, "fault " + kind, x.fault(0), kind);
            int[] stays = {2, 2, 1, 3, 2, 1, 2, 4, 0, 5};
            for (int what = 0; what < 10; what++) {
                is(3, "count " + what + " behind fault " + kind, x.count(what), stays[what]);
            }
            is(3, "chalk", x.pair(0, 1), 9);
        }
        is(3, "it can still be undone", x.undo(4), 0);
        is(3, "as it was told", x.count(3), 7);
        x.year(0);
        x.lead(10);
        x.year(1);
        x.year(0);
        x.year(0);
        is(3, "fallen", x.count(5), 1);
        is(3, "another cave", Due.tell(x, "cave drops 1;pair gap 6;pair gap 5;pair gap 2;dry 1;"), 5);
        int[] anew = {3, 1, 0, 13, 1, 0, 0, 0, 0, 5};
        for (int what = 0; what < 10; what++) {
            is(3, "count " + what + " of another cave", x.count(what), anew[what]);
        }
        is(3, "chalk anew", x.pair(0, 1), 1);
        is(3, "no law is left", x.falls(), -1);
        is(3, "nothing can be undone", x.undo(1), -3);
    }

    private static void fault() {
        StoneMeet x = new StoneMeet();
        for (int round = 0; round < 2; round++) {
            for (int what : Due.outside(0, 1)) {
                is(4, "fault(" + what + ")", x.fault(what), -1);
            }
            Due.tell(x, "cave drops 2;pair gap 9;dry 11;");
            is(4, "fault(0)", x.fault(0), 3);
            is(4, "fault(1)", x.fault(1), 28);
        }
        x.cave(1);
        x.cave(-1);
        is(4, "cave() that wasn't read", x.fault(0), 3);
        is(4, "cave() that wasn't read", x.fault(1), 28);
        x.image(0);
        Due.tell(x, "cave drops 2;");
        is(4, "the latest has none", x.fault(0), 0);
        is(4, "the latest has none", x.fault(1), -1);
        x.cave(0);
        is(4, "no text", x.fault(0), 2);
        is(4, "no text", x.fault(1), 0);
        x.restore(0);
        is(4, "restore reads none", x.fault(0), 2);
    }

    // ---- 5 to 7

    private static void pair() {
        StringBuilder text = new StringBuilder("cave drops 3;");
        for (int pairs = 0; pairs <= 4; pairs++) {
            StoneMeet x = Due.caveOf(text.toString());
            for (int p : Due.outside(0, pairs - 1)) {
                for (int what = -1; what <= 4; what++) {
                    is(5, "pair(" + p + ", " + what + ") of " + pairs, x.pair(p, what), -2);
                }
            }
            for (int p = 0; p < pairs; p++) {
                is(5, "gap", x.pair(p, 0), 2 * p + 3);
                is(5, "chalk", x.pair(p, 1), 3 * p);
                is(5, "drops", x.pair(p, 2), p == 0 ? 3 : 0);
                is(5, "told", x.pair(p, 3), 2 * p + 3);
                for (int what : Due.outside(0, 3)) {
                    is(5, "pair(" + p + ", " + what + ")", x.pair(p, what), -2);
                }
            }
            text.append("pair gap ").append(2 * pairs + 3).append(" chalk ").append(3 * pairs).append(';');
        }
        StoneMeet x = Due.caveOf(FOUR);
        for (int p = 0; p < 4; p++) {
            x.lead(4 * (int) Math.pow(5, p));
            for (int q = 0; q < 4; q++) {
                is(5, "drops of " + q, x.pair(q, 2), p == q ? 4 : 0);
            }
        }
    }

    private static void grown() {
        StoneMeet x = Due.caveOf("cave drops 0;pair gap 9 chalk 3;pair gap 0;grows:drops*2+dry;");
        for (int p : Due.outside(0, 1)) {
            is(6, "the pair ahead of drops and dry", x.grown(p, 5, 2), -99000002);
            is(6, "grown(" + p + ")", x.grown(p, 0, 0), -99000002);
        }
        for (int drops = 0; drops <= 4; drops++) {
            is(6, "grown", x.grown(0, drops, 0), 2 * drops);
            is(6, "grown, dry", x.grown(0, drops, 1), 2 * drops + 1);
            is(6, "it has met", x.grown(1, drops, 1), 0);
        }
        for (int drops : Due.outside(0, 4)) {
            is(6, "drops " + drops, x.grown(0, drops, 0), -99000003);
            is(6, "drops " + drops + " of one that has met", x.grown(1, drops, 1), -99000003);
        }
        for (int dry : Due.outside(0, 1)) {
            is(6, "dry " + dry, x.grown(0, 0, dry), -99000003);
            is(6, "dry " + dry + " of one that has met", x.grown(1, 4, dry), -99000003);
        }
        is(6, "nothing is done", x.count(6) + x.count(7), 0);
    }

    private static void leadings() {
        // By drops and pairs: in how many ways drops are shared.
        int[][] ways = {{1, 1, 1, 1, 1}, {1, 1, 2, 3, 4}, {1, 1, 3, 6, 10}, {1, 1, 4, 10, 20}, {1, 1, 5, 15, 35}};
        for (int drops = 0; drops <= 4; drops++) {
            for (int pairs = 0; pairs <= 4; pairs++) {
                StoneMeet x = Due.caveOf("cave drops " + drops + ";" + "pair gap 1;".repeat(pairs));
                is(7, pairs + " pairs, " + drops + " drops", x.leadings(), ways[drops][pairs]);
                is(23, "rows", x.rows(0, 8), (long) Math.pow(ways[drops][pairs], 8));
            }
        }
    }

    // ---- 8 to 11

    private static void year() {
        for (int meeting = 0; meeting <= 4; meeting++) {
            StoneMeet x = Due.caveOf("cave drops 0;" + "pair gap 2;".repeat(meeting) + "pair gap 3;".repeat(4 - meeting) + "grows:2;");
            for (int dry : Due.outside(0, 1)) {
                is(8, "year(" + dry + ")", x.year(dry), -11);
            }
            is(8, "no year", x.count(6) + x.count(7), 0);
            is(8, "year(0)", x.year(meeting % 2), meeting);
            is(8, "year(1)", x.year(1), 4 - meeting);
            is(8, "all have", x.year(0), 0);
            is(8, "years", x.count(6), 3);
            is(8, "undoable", x.count(7), 3);
        }
    }

    /** Each number from below 0 to above the greatest, by all pairs and drops there can be. */
    private static void lead() {
        for (int drops = 0; drops <= 4; drops++) {
            for (int pairs = 0; pairs <= 4; pairs++) {
                StoneMeet x = null;
                int was = 0;
                int found = 0;
                for (int number = -130; number < 1300; number++) {
                    if ((number + 130) % 400 == 0) {
                        x = Due.caveOf("cave drops " + drops + ";" + "pair gap 1;".repeat(pairs));
                        was = pairs == 0 ? 0 : drops;
                    }
                    boolean can = isLeading(number, pairs, drops);
                    is(9, "lead(" + number + ") of " + pairs + ", " + drops, x.lead(number), can ? was : -11);
                    was = can ? number : was;
                    found += can ? 1 : 0;
                }
                is(9, "the leading", x.count(4), was);
                is(7, "as many as there are", found, x.leadings());
                for (int number : new int[] {LEAST, LEAST + 1, -625, -5, 3125, 1 << 30, GREATEST - 1, GREATEST}) {
                    is(9, "lead(" + number + ")", x.lead(number), -11);
                }
                is(9, "the leading", x.count(4), was);
            }
        }
    }

    private static boolean isLeading(int number, int pairs, int drops) {
        if (number < 0) {
            return false;
        }
        int sum = 0;
        int rest = number;
        for (int p = 0; p < pairs; p++) {
            sum += rest % 5;
            rest /= 5;
        }
        return rest == 0 && sum == (pairs == 0 ? 0 : drops);
    }

    private static void saw() {
        StoneMeet x = Due.caveOf(FOUR + "falls:dry=1;");
        x.year(0);
        for (int p : Due.outside(0, 3)) {
            is(10, "saw(" + p + ")", x.saw(p), -11);
        }
        is(10, "the first", x.saw(0), 8);
        is(10, "as told", x.pair(0, 0), 9);
        is(10, "not the others", x.pair(1, 0), 7);
        is(10, "told with gap 0", x.saw(3), 0);
        is(10, "as told", x.pair(3, 0), 0);
        is(10, "once more", x.saw(0), 9);
        is(10, "undoable", x.count(7), 4);
        x.year(1);
        for (int p : Due.outside(0, 3)) {
            is(10, "no such pair, ahead of fallen", x.saw(p), -11);
        }
        for (int p = 0; p < 4; p++) {
            is(10, "fallen", x.saw(p), -12);
        }
        is(10, "undoable", x.count(7), 5);
    }

    private static void chalk() {
        StoneMeet x = Due.caveOf(FOUR + "falls:dry=1;");
        int[] was = {1, 0, 9, 1};
        for (int round = 0; round < 2; round++) {
            for (int p = 0; p < 4; p++) {
                for (int n : new int[] {0, 9, 5 + p}) {
                    is(11, "chalk(" + p + ", " + n + ")", x.chalk(p, n), was[p]);
                    was[p] = n;
                }
                for (int n : Due.outside(0, 9)) {
                    is(11, "chalk(" + p + ", " + n + ")", x.chalk(p, n), -11);
                }
            }
            for (int p : Due.outside(0, 3)) {
                is(11, "chalk(" + p + ", 0)", x.chalk(p, 0), -11);
                is(11, "chalk(" + p + ", 10)", x.chalk(p, 10), -11);
            }
            for (int p = 0; p < 4; p++) {
                is(11, "as it was given", x.pair(p, 1), was[p]);
            }
            // The roof is no hindrance.
            x.year(1);
        }
        is(11, "undoable", x.count(7), 10);
    }

    // ---- 12

    /** For each number of calls that can be undone, each number to undo. */
    private static void undo() {
        for (int done = 0; done <= 13; done++) {
            int can = Math.min(done, 10);
            for (int n = 1; n <= can; n++) {
                StoneMeet x = counting(done);
                is(12, "undoable", x.count(7), can);
                for (int wrong : Due.outside(1, can)) {
                    is(12, "undo(" + wrong + ") of " + done, x.undo(wrong), -3);
                }
                is(12, "years", x.count(6), done);
                is(12, "undo(" + n + ") of " + done, x.undo(n), can - n);
                is(12, "years", x.count(6), done - n);
                is(12, "chalk", x.pair(0, 1), (done - n) % 10);
                is(12, "undoable", x.count(7), can - n);
                is(12, "more than can be", x.undo(can - n + 1), -3);
                is(12, "years", x.count(6), done - n);
            }
        }
        StoneMeet x = counting(0);
        for (int n : new int[] {LEAST, -1, 0, 1, 2, 10, 11, GREATEST}) {
            is(12, "nothing can be", x.undo(n), -3);
        }
    }

    /** Of so many performs, each of a year and of other chalk: the number of years modulo 10. */
    private static StoneMeet counting(int done) {
        StoneMeet x = Due.caveOf("cave drops 1;pair gap 9 chalk 0;grows:0;");
        for (int i = 1; i <= done; i++) {
            Due.fill(x, 0, 0, 100 + i % 10);
            x.perform(0);
        }
        return x;
    }

    private static void undoEldest() {
        StoneMeet x = Due.caveOf("cave drops 2;pair gap 9;pair gap 9;grows:1;");
        x.lead(6);
        for (int i = 0; i < 9; i++) {
            x.year(1);
        }
        is(12, "ten", x.count(7), 10);
        x.image(0);
        is(12, "all ten", x.undo(10), 0);
        is(12, "the leading of the first", x.count(4), 2);
        x.restore(0);
        is(12, "none behind an image", x.undo(1), -3);
        x = Due.caveOf("cave drops 2;pair gap 9;pair gap 9;grows:1;");
        x.lead(6);
        for (int i = 0; i < 10; i++) {
            x.year(1);
        }
        is(12, "ten of eleven", x.count(7), 10);
        is(12, "eleven can't be", x.undo(11), -3);
        is(12, "all ten", x.undo(10), 0);
        is(12, "the eldest is forgotten", x.count(4), 6);
        is(12, "years", x.count(6), 0);
        is(12, "nothing more", x.undo(1), -3);
    }

    /** Done and undone in turns, so that what is kept comes round many times. */
    private static void undoRound() {
        StoneMeet x = Due.caveOf("cave drops 0;pair gap 9;");
        int[] past = new int[200];
        int size = 0;
        int kept = 0;
        for (int i = 0; i < 180; i++) {
            int n = i * 7 % 5 == 0 ? 1 + i % 4 : 0;
            if (n > 0 && n <= kept) {
                size -= n;
                kept -= n;
                is(12, "undo", x.undo(n), kept);
            } else {
                past[size + 1] = i % 10;
                size++;
                kept = Math.min(10, kept + 1);
                x.chalk(0, i % 10);
            }
            is(12, "chalk", x.pair(0, 1), size == 0 ? 1 : past[size]);
            if (i % 61 == 60) {
                size -= kept;
                is(12, "all of them", x.undo(kept), 0);
                kept = 0;
            }
        }
    }

    /** Each call that did some, one by one: all that it changed, and nothing that was ahead. */
    private static void undoneAsAWhole() {
        StoneMeet x = Due.caveOf("cave drops 2;pair gap 3;pair gap 9;lead 2 0;falls:met=1 and gaps<4;");
        Due.fill(x, 0, 0, 0, 1010, 0, 0, 117, 0, 10);
        is(14, "till the roof has fallen", x.perform(0), 7);
        is(12, "gaps", x.count(3), 3);
        is(12, "fallen", x.count(5), 1);
        is(12, "years", x.count(6), 5);
        is(12, "undo(1)", x.undo(1), 0);
        int[] told = {2, 2, 0, 12, 2, 0, 0, 0};
        for (int what = 0; what < told.length; what++) {
            is(12, "count " + what, x.count(what), told[what]);
        }
        is(12, "chalk", x.pair(1, 1), 1);
        int done = x.age(5, 40);
        is(15, "some could be", done > 0 ? 1 : 0, 1);
        is(12, "undo(1)", x.undo(1), 0);
        for (int what = 0; what < told.length; what++) {
            is(12, "count " + what, x.count(what), told[what]);
        }
        x.year(0);
        x.chalk(1, 4);
        is(15, "some could be", x.age(9, 40) > 0 ? 1 : 0, 1);
        is(12, "the age alone", x.undo(1), 2);
        int[] ahead = {2, 2, 0, 10, 2, 0, 1, 2};
        for (int what = 0; what < ahead.length; what++) {
            is(12, "count " + what + " ahead of the age", x.count(what), ahead[what]);
        }
        is(12, "chalk ahead of the age", x.pair(1, 1), 4);
        x.undo(1);
        x.saw(0);
        is(12, "sawn off", x.pair(0, 0), 3);
        x.undo(1);
        is(12, "not sawn off", x.pair(0, 0), 1);
        x.lead(2);
        is(12, "to lead as it is led is a deed, too", x.count(7), 2);
    }

    // ---- 13, 14

    /** Each deed's number from below the first to above the last, and far off. */
    private static void deeds() {
        StoneMeet x = null;
        for (int v = -130; v <= 2100; v++) {
            if ((v + 130) % 120 == 0) {
                x = Due.caveOf(FOUR);
                x.numbers(1, 1, 1);
            }
            boolean year = v == 0 || v == 1;
            boolean saw = v >= 10 && v <= 13;
            boolean chalk = v >= 100 && v <= 139;
            boolean lead = v >= 1000 && v <= 1999 && isLeading(v - 1000, 4, 4);
            boolean can = year || saw || chalk || lead;
            x.write(1, 0, v);
            is(13, "deed " + v + ", place", x.judge(1, 0), can ? -1 : 0);
            is(13, "deed " + v + ", why", x.judge(1, 1), can ? 0 : 1);
            if (v % 3 == 0 || v < 20) {
                is(14, "deed " + v + " done", x.perform(1), can ? 1 : 0);
            }
            if (chalk && v % 3 == 0) {
                is(14, "deed " + v + ", chalk", x.pair((v - 100) / 10, 1), v % 10);
            }
            if (lead && v % 3 == 0) {
                is(14, "deed " + v + ", leading", x.count(4), v - 1000);
            }
        }
        x = Due.caveOf(FOUR);
        long[] far = {Long.MIN_VALUE, Long.MIN_VALUE + 1, -(1L << 32), -(1L << 32) + 10, LEAST, GREATEST, 1L << 31, (1L << 32) - 1,
            1L << 32, (1L << 32) + 1, (1L << 32) + 10, (1L << 32) + 100, (1L << 32) + 1500, 1L << 33, Long.MAX_VALUE - 1, Long.MAX_VALUE};
        for (long v : far) {
            Due.fill(x, 2, v);
            is(13, "deed " + v, x.judge(2, 1), 1);
            is(14, "deed " + v, x.perform(2), 0);
        }
        is(14, "nothing was done", x.count(7), 0);
    }

    private static void deedsByWhy() {
        StoneMeet x = Due.caveOf("cave drops 2;pair gap 4;pair gap 3;falls:dry=1;");
        Due.fill(x, 0, 1, 10);
        is(13, "fallen by then: place", x.judge(0, 0), 1);
        is(13, "fallen by then: why", x.judge(0, 1), 2);
        Due.fill(x, 0, 1, 12);
        is(13, "no such pair, ahead of fallen", x.judge(0, 1), 1);
        Due.fill(x, 0, 1, 19);
        is(13, "no such pair, ahead of fallen", x.judge(0, 1), 1);
        Due.fill(x, 0, 1, 0, 1, 109, 119, 1010, 1002, 0);
        is(13, "all else can be, fallen or not", x.judge(0, 0), -1);
        Due.fill(x, 0, 1, 120);
        is(13, "no such pair", x.judge(0, 1), 1);
        Due.fill(x, 0, 0, 1, 11);
        is(13, "with the leading there is", x.judge(0, 3), 5);
        Due.fill(x, 0, 1010, 0, 1);
        is(13, "with the other one", x.judge(0, 3), 5);
        is(13, "nothing was done", x.count(3), 7);
        x = new StoneMeet();
        Due.fill(x, 0, 0, 1, 1000, 0);
        is(13, "without pairs", x.judge(0, 0), -1);
        for (long v : new long[] {10, 19, 100, 199, 1001, 1004}) {
            Due.fill(x, 0, 0, v);
            is(13, "without pairs, deed " + v, x.judge(0, 0), 1);
        }
    }

    private static void judge() {
        StoneMeet x = Due.caveOf("cave drops 1;pair gap 9;pair gap 1;grows:if pair=0 then 0 else 1 end;");
        for (int tray : Due.outside(0, 3)) {
            for (int what = -1; what <= 4; what++) {
                is(13, "judge(" + tray + ", " + what + ")", x.judge(tray, what), -2);
            }
        }
        for (int tray = 0; tray < 4; tray++) {
            for (int what : Due.outside(0, 3)) {
                is(13, "what ahead of missing", x.judge(tray, what), -2);
            }
            for (int what = 0; what < 4; what++) {
                is(13, "missing", x.judge(tray, what), -6);
            }
            x.numbers(tray, tray, 0);
            int[] empty = {-1, 0, 0, 10};
            for (int what = 0; what < 4; what++) {
                is(13, "no deeds, what " + what, x.judge(tray, what), empty[what]);
            }
            for (int what : Due.outside(0, 3)) {
                is(13, "what", x.judge(tray, what), -2);
            }
            x.numbers(tray, tray, 40);
            int[] forty = {-1, 0, 2, 9};
            for (int what = 0; what < 4; what++) {
                is(13, "forty years, what " + what, x.judge(tray, what), forty[what]);
            }
            x.write(tray, 39, 99);
            int[] last = {39, 1, 2, 9};
            for (int what = 0; what < 4; what++) {
                is(13, "the fortieth can't be, what " + what, x.judge(tray, what), last[what]);
            }
            x.write(tray, 0, -1);
            int[] first = {0, 1, 0, 10};
            for (int what = 0; what < 4; what++) {
                is(13, "the first can't be, what " + what, x.judge(tray, what), first[what]);
            }
        }
        is(13, "nothing is done", x.count(6) + x.count(7), 0);
    }

    private static void perform() {
        StoneMeet x = Due.caveOf("cave drops 1;pair gap 9;pair gap 1;grows:if pair=0 then 0 else 1 end;");
        for (int tray : Due.outside(0, 3)) {
            is(14, "perform(" + tray + ")", x.perform(tray), -2);
        }
        for (int tray = 0; tray < 4; tray++) {
            is(14, "missing", x.perform(tray), -6);
            x.numbers(tray, tray, 0);
            is(14, "no deeds", x.perform(tray), 0);
            is(14, "nothing can be undone", x.count(7), 0);
            x.numbers(tray, tray, 40);
            x.write(tray, 0, 2);
            is(14, "the first can't be", x.perform(tray), 0);
            is(14, "nothing can be undone", x.count(7), 0);
            x.write(tray, 0, 0);
            is(14, "forty", x.perform(tray), 40);
            is(14, "years", x.count(6), 40);
            is(14, "as a whole", x.undo(1), 0);
            is(14, "years", x.count(6), 0);
            x.write(tray, 39, 20);
            is(14, "all but the fortieth", x.perform(tray), 39);
            is(14, "years", x.count(6), 39);
            is(14, "as a whole", x.undo(1), 0);
            is(14, "the tray stays", x.judge(tray, 0), 39);
        }
    }

    // ---- 15

    /** Draws by long numbers, in which nothing wraps around by itself. */
    private static final class Draws {
        private static final long ROUND = 1L << 32;
        private long x;

        Draws(int seed) {
            x = seed < 0 ? seed + ROUND : seed;
        }

        int of(int bound) {
            x = (x * 1103515245L + 12345L) % ROUND;
            return (int) (x / 65536 % bound);
        }

        long deed() {
            switch (of(6)) {
                case 3:
                    return 10 + of(4);
                case 4:
                    long pair = of(4);
                    return 100 + 10 * pair + of(10);
                case 5:
                    return 1000 + of(625);
                default:
                    return of(3) == 0 ? 1 : 0;
            }
        }
    }

    private static void age() {
        int[] seeds = {LEAST, LEAST + 1, -65537, -65536, -1, 0, 1, 65535, 65536, GREATEST - 1, GREATEST, 1103515245, -12345};
        String[] caves = {FOUR + "grows:drops+chalk-met*2-dry;falls:gaps=5;", FOUR, "cave drops 1;pair gap 9;",
            "cave drops 0;pair gap 3;pair gap 3;falls:1=1;"};
        for (int seed : seeds) {
            for (String cave : caves) {
                StoneMeet a = Due.caveOf(cave);
                StoneMeet b = Due.caveOf(cave);
                Draws draws = new Draws(seed);
                int done = 0;
                for (int i = 0; i < 40; i++) {
                    Due.fill(b, 0, draws.deed());
                    done += b.perform(0);
                }
                is(15, "age(" + seed + ", 40)", a.age(seed, 40), done);
                for (int what = 2; what <= 6; what++) {
                    is(15, "count " + what + " by " + seed, a.count(what), b.count(what));
                }
                for (int p = 0; p < a.count(0); p++) {
                    is(15, "chalk by " + seed, a.pair(p, 1), b.pair(p, 1));
                }
                is(15, "one call", a.count(7), 1);
            }
        }
    }

    private static void ageTimes() {
        StoneMeet x = Due.caveOf(FOUR);
        for (int times : Due.outside(1, 40)) {
            for (int seed : new int[] {LEAST, -1, 0, 1, GREATEST}) {
                is(15, "age(" + seed + ", " + times + ")", x.age(seed, times), -3);
            }
        }
        is(15, "nothing was done", x.count(7) + x.count(6), 0);
        for (int times = 1; times <= 40; times++) {
            StoneMeet a = Due.caveOf(FOUR + "grows:drops-dry;");
            StoneMeet b = Due.caveOf(FOUR + "grows:drops-dry;");
            Draws draws = new Draws(77 * times);
            int done = 0;
            for (int i = 0; i < times; i++) {
                Due.fill(b, 0, draws.deed());
                done += b.perform(0);
            }
            is(15, times + " times", a.age(77 * times, times), done);
            is(15, "years", a.count(6), b.count(6));
            is(15, "gaps", a.count(3), b.count(3));
            is(15, "leading", a.count(4), b.count(4));
            is(15, "it can be undone if some was done", a.count(7), done > 0 ? 1 : 0);
        }
    }

    /** An age of which nothing could be is no call that did some. */
    private static void ageOfNone() {
        int none = 0;
        for (int seed = 1; seed < 200 && none < 5; seed++) {
            StoneMeet x = new StoneMeet();
            Draws draws = new Draws(seed);
            boolean year = draws.of(6) <= 2;
            draws = new Draws(seed);
            boolean can = year || draws.deed() == 1000;
            is(15, "age(" + seed + ", 1) without pairs", x.age(seed, 1), can ? 1 : 0);
            is(15, "undoable", x.count(7), can ? 1 : 0);
            is(15, "years", x.count(6), year ? 1 : 0);
            none += can ? 0 : 1;
        }
        is(15, "some had none", none, 5);
    }
}
