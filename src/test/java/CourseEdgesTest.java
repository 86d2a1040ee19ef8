/**
 * Promises 16 to 37 at their edges: as it is led, led well, seen, by turns, chances. Each bound of
 * each argument on both sides, each code, which comes first, each NONE.
 */
public final class CourseEdgesTest {
    private interface Sight {
        long of(StoneMeet x, int tray, int p);
    }

    private static final Due due = new Due();
    private static final String FOUR = "cave drops 4;pair gap 9;pair gap 8;pair gap 7;pair gap 0;lead 2 1 1 0;";
    /** Rounds of 9, 8, 7 and 5 years, which all begin anew behind 2520. */
    private static final String ROUNDS = "cave drops 0;pair gap 9;pair gap 9;pair gap 9;pair gap 9;"
            + "grows:if gap=9 then if pair=3 then 4 else 8-pair end else 0-1 end;";
    /** One behind the other, 9 years each, whatever is led. */
    private static final String QUEUE = "cave drops 1;pair gap 9;pair gap 9;pair gap 9;pair gap 9;grows:if pair=met then 1 else 0 end;";
    private static final int LEAST = Integer.MIN_VALUE;
    private static final int GREATEST = Integer.MAX_VALUE;

    public static void main(String[] args) {
        lies();
        rounds();
        meets();
        order();
        falls();
        moved();
        movedFirst();
        sets();
        soonest();
        way();
        rows();
        most();
        holding();
        felling();
        stands();
        sightCodes();
        sightFirst();
        sightNumbers();
        seen();
        seenDry();
        surely();
        chalks();
        attempt();
        forces();
        best();
        chanceCodes();
        chances();
        noPairs();
        fourthPair();
        due.end("CourseEdgesTest");
    }

    private static void is(int promise, String call, long got, long want) {
        due.is("promise " + promise + ": " + call, got, want);
    }

    // ---- 16 to 20

    private static void lies() {
        StoneMeet x = Due.caveOf(FOUR);
        for (int p : Due.outside(0, 3)) {
            is(16, "the pair ahead of the years", x.lies(p, -1), -2);
            is(16, "lies(" + p + ", 0)", x.lies(p, 0), -2);
            is(16, "lies(" + p + ", 100000)", x.lies(p, 100000), -2);
        }
        for (int n : Due.outside(0, 99999)) {
            for (int p = 0; p < 4; p++) {
                is(16, "lies(" + p + ", " + n + ")", x.lies(p, n), -3);
            }
        }
        int[] gaps = {9, 8, 7, 0};
        int[] less = {2, 1, 1, 0};
        for (int p = 0; p < 4; p++) {
            for (int n = 0; n < 12; n++) {
                is(16, "lies(" + p + ", " + n + ")", x.lies(p, n), Math.max(0, gaps[p] - n * less[p]));
            }
            is(16, "lies(" + p + ", 99999)", x.lies(p, 99999), 0);
        }
        is(16, "nothing is done", x.count(6) + x.count(7), 0);
    }

    private static void rounds() {
        int[] round = {9, 8, 7, 5};
        StoneMeet x = Due.caveOf(ROUNDS);
        for (int n : new int[] {0, 1, 4, 5, 6, 9, 10, 503, 504, 2519, 2520, 2521, 5039, 5040, 49999, 65536, 99997, 99998, 99999}) {
            for (int p = 0; p < 4; p++) {
                int phase = n % round[p];
                is(16, "lies(" + p + ", " + n + ")", x.lies(p, n), phase == 0 ? 9 : 9 - round[p] + phase);
            }
        }
        for (int p = 0; p < 4; p++) {
            is(17, "it never meets", x.meets(p), -1);
            is(18, "none does", x.order(p), -1);
        }
        is(19, "all of them 9 again", Due.caveOf(ROUNDS + "falls:gaps=36;").falls(), 2520);
        is(19, "all of them 8, then", Due.caveOf(ROUNDS + "falls:gaps=32 and widest=8;").falls(), 2519);
        x = Due.caveOf(ROUNDS + "falls:gaps=36;");
        is(16, "the year ahead", x.lies(0, 2519), 8);
        is(16, "the year it falls", x.lies(0, 2520), 9);
        is(16, "from then on", x.lies(0, 2521), 9);
        is(16, "for good", x.lies(3, 99999), 9);
        is(26, "by the only row there is", x.felling(), 2520);
        is(25, "by the only row there is", x.holding(), 2519);
        is(27, "the first gaps once more, fallen", x.stands(), 2521);
    }

    private static void meets() {
        for (int pairs = 0; pairs <= 4; pairs++) {
            StoneMeet x = Due.caveOf("cave drops 1;" + "pair gap 2;".repeat(pairs));
            for (int p : Due.outside(0, pairs - 1)) {
                is(17, "meets(" + p + ") of " + pairs, x.meets(p), -2);
            }
            for (int p = 0; p < pairs; p++) {
                is(17, "meets(" + p + ") of " + pairs, x.meets(p), p == 0 ? 2 : -1);
            }
        }
        StoneMeet x = Due.caveOf(QUEUE);
        for (int p = 0; p < 4; p++) {
            is(17, "one behind the other", x.meets(p), 9 * (p + 1));
        }
        is(17, "it has", Due.caveOf(FOUR).meets(3), 0);
        is(17, "in one year", Due.caveOf("cave drops 0;pair gap 9;grows:9;").meets(0), 1);
        is(17, "in nine", Due.caveOf("cave drops 0;pair gap 9;grows:1;").meets(0), 9);
        is(17, "as the roof falls", Due.caveOf("cave drops 0;pair gap 9;grows:1;falls:gaps=0;").meets(0), 9);
        is(17, "the roof falls the year ahead", Due.caveOf("cave drops 0;pair gap 9;grows:1;falls:gaps=1;").meets(0), -1);
        x = Due.caveOf("cave drops 1;pair gap 0;pair gap 3;falls:1=1;");
        x.year(0);
        is(17, "fallen, it has", x.meets(0), 0);
        is(17, "fallen, never", x.meets(1), -1);
    }

    private static void order() {
        StoneMeet x = Due.caveOf("cave drops 0;pair gap 4;pair gap 0;pair gap 2;pair gap 0;grows:2;");
        int[] order = {1, 3, 2, 0};
        for (int i = 0; i < 4; i++) {
            is(18, "order(" + i + ")", x.order(i), order[i]);
        }
        for (int i : new int[] {LEAST, LEAST + 1, -2, -1}) {
            is(18, "order(" + i + ")", x.order(i), -3);
            is(18, "order(" + i + ") without pairs", new StoneMeet().order(i), -3);
        }
        for (int i : new int[] {4, 5, GREATEST - 1, GREATEST}) {
            is(18, "order(" + i + ")", x.order(i), -1);
            is(18, "order(" + i + ") without pairs", new StoneMeet().order(i), -1);
        }
        for (int meeting = 0; meeting <= 4; meeting++) {
            x = Due.caveOf("cave drops 0;" + "pair gap 3;".repeat(4) + "grows:if pair<" + meeting + " then 1 else 0 end;");
            for (int i = 0; i < 5; i++) {
                is(18, "of one year by numbers, " + meeting + " do", x.order(i), i < meeting ? i : -1);
            }
        }
        x = Due.caveOf("cave drops 0;" + "pair gap 3;".repeat(4) + "grows:pair+1;");
        // In 3, 2, 1 and 1 years.
        int[] slow = {2, 3, 1, 0};
        for (int i = 0; i < 4; i++) {
            is(18, "the later numbers sooner", x.order(i), slow[i]);
        }
    }

    private static void falls() {
        is(19, "in the first year", Due.caveOf("cave drops 0;falls:1=1;").falls(), 1);
        is(19, "never", Due.caveOf("cave drops 0;falls:1=2;").falls(), -1);
        is(19, "only if dry", Due.caveOf("cave drops 0;falls:dry=1;").falls(), -1);
        is(19, "no law", Due.caveOf("cave drops 0;").falls(), -1);
        StoneMeet x = Due.caveOf(QUEUE + "falls:met=4;");
        is(19, "when all have met", x.falls(), 36);
        for (int i = 0; i < 36; i++) {
            x.year(0);
        }
        is(19, "it has", x.falls(), 0);
        x.undo(1);
        is(19, "it would", x.falls(), 1);
    }

    private static void moved() {
        StoneMeet x = Due.caveOf("cave drops 4;pair gap 9;pair gap 9;pair gap 0;pair gap 9;lead 3 1 0 0;");
        for (int wrong : Due.outside(0, 3)) {
            is(20, "the pair " + wrong, x.moved(wrong, 0, 1), -99000002);
            is(20, "from " + wrong, x.moved(0, wrong, 1), -99000002);
            is(20, "to " + wrong, x.moved(0, 0, wrong), -99000002);
            is(20, "all of them " + wrong, x.moved(wrong, wrong, wrong), -99000002);
        }
        is(20, "3 to 2 drops: 3 to 5 years", x.moved(0, 0, 1), 2);
        is(20, "1 to 2 drops: 9 to 5 years", x.moved(1, 0, 1), -4);
        is(20, "it has met", x.moved(2, 0, 1), 0);
        is(20, "never at all", x.moved(3, 0, 1), -99000001);
        is(20, "never as it is", x.moved(3, 0, 3), -99000001);
        is(20, "never so", x.moved(1, 1, 0), -99000001);
        is(20, "not touched", x.moved(0, 1, 2), 0);
        is(20, "to one that has met", x.moved(0, 0, 2), 2);
        is(20, "nothing is led otherwise", x.count(4), 8);
        x = Due.caveOf("cave drops 4;pair gap 9;pair gap 9;lead 4 0;");
        is(20, "4 to 3 drops: 3 to 3 years", x.moved(0, 0, 1), 0);
        is(20, "none is led there", x.moved(0, 1, 0), -99000005);
        x = Due.caveOf("cave drops 1;pair gap 9;pair gap 9;grows:if pair=0 then 1+drops*8 else 1 end;");
        is(20, "by as much as can be", x.moved(0, 0, 1), 8);
        x.lead(5);
        is(20, "by as much as can be, sooner", x.moved(0, 1, 0), -8);
    }

    private static void movedFirst() {
        StoneMeet x = Due.caveOf("cave drops 4;pair gap 9;pair gap 9;pair gap 0;pair gap 9;lead 3 1 0 0;");
        for (int p = 0; p < 4; p++) {
            for (int q = 0; q < 4; q++) {
                is(20, "both one", x.moved(p, q, q), -99000002);
            }
        }
        for (int from = 2; from < 4; from++) {
            for (int p = 0; p < 4; p++) {
                is(20, "none is led there, ahead of never", x.moved(p, from, 0), -99000005);
            }
            is(20, "no such pair, ahead of none led", x.moved(4, from, 0), -99000002);
            is(20, "no such to, ahead of none led", x.moved(0, from, 4), -99000002);
        }
        x = Due.caveOf("cave drops 0;pair gap 9;pair gap 9;");
        is(20, "there are no drops", x.moved(0, 0, 1), -99000005);
        is(20, "both one, without drops", x.moved(0, 0, 0), -99000002);
        is(20, "one pair alone", Due.caveOf("cave drops 1;pair gap 9;").moved(0, 0, 0), -99000002);
        x = Due.caveOf("cave drops 1;pair gap 1;pair gap 1;falls:met=1;");
        is(20, "the roof falls ahead of it", x.moved(0, 0, 1), -99000001);
        x = Due.caveOf("cave drops 1;pair gap 3;pair gap 9;lead 0 1;falls:dry=1;");
        x.year(1);
        is(20, "fallen", x.moved(1, 1, 0), -99000001);
        is(20, "fallen, none led", x.moved(1, 0, 1), -99000005);
    }

    // ---- 21 to 27

    private static void sets() {
        for (int pairs = 0; pairs <= 4; pairs++) {
            int all = (1 << pairs) - 1;
            StoneMeet x = Due.caveOf("cave drops 1;" + "pair gap 0;".repeat(pairs));
            for (int set = 0; set <= all; set++) {
                is(21, "soonest(" + set + ") of " + pairs, x.soonest(set), 0);
                is(22, "way(" + set + ", 0) of " + pairs, x.way(set, 0), -1);
                is(23, "rows(" + set + ", 0) of " + pairs, x.rows(set, 0), 1);
            }
            for (int set : Due.outside(0, all)) {
                is(21, "soonest(" + set + ") of " + pairs, x.soonest(set), -3);
                is(22, "way(" + set + ", 0) of " + pairs, x.way(set, 0), -3);
                is(22, "way(" + set + ", -1) of " + pairs, x.way(set, -1), -3);
                is(23, "rows(" + set + ", 0) of " + pairs, x.rows(set, 0), -3);
                is(23, "rows(" + set + ", 9) of " + pairs, x.rows(set, 9), -3);
            }
        }
    }

    private static void soonest() {
        StoneMeet x = Due.caveOf("cave drops 1;pair gap 1;pair gap 2;pair gap 3;pair gap 9;");
        int[] gaps = {1, 2, 3, 9};
        for (int set = 0; set < 16; set++) {
            int all = 0;
            for (int p = 0; p < 4; p++) {
                all += (set >> p & 1) * gaps[p];
            }
            is(21, "soonest(" + set + ")", x.soonest(set), all);
            is(22, "the last of them", x.way(set, all - 1), all == 0 ? -3 : lastOf(set));
            is(22, "behind the last", x.way(set, all), -1);
        }
        is(21, "all of 36", Due.caveOf(QUEUE).soonest(15), 36);
        is(21, "the last in the queue", Due.caveOf(QUEUE).soonest(8), 36);
        is(21, "without drops", Due.caveOf("cave drops 0;pair gap 1;pair gap 0;").soonest(1), -1);
        is(21, "the others have", Due.caveOf("cave drops 0;pair gap 1;pair gap 0;").soonest(2), 0);
        is(21, "one of a set can't", Due.caveOf("cave drops 0;pair gap 1;pair gap 0;").soonest(3), -1);
        String two = "cave drops 1;pair gap 1;pair gap 1;";
        is(21, "it falls in the last year", Due.caveOf(two + "falls:met=2;").soonest(3), 2);
        is(21, "it falls in the year ahead", Due.caveOf(two + "falls:met=1;").soonest(3), -1);
        is(21, "it falls in the first", Due.caveOf(two + "falls:1=1;").soonest(1), 1);
        x = Due.caveOf(two + "falls:1=1;");
        x.year(0);
        is(21, "it has fallen: those who have", x.soonest(1), 0);
        is(21, "it has fallen: no set", x.soonest(0), 0);
        is(21, "it has fallen: another", x.soonest(2), -1);
        is(22, "it has fallen: another", x.way(2, 0), -1);
        is(21, "it has fallen: both", x.soonest(3), -1);
    }

    /** The leadings come by their numbers, so that the greatest pair of a set is last. */
    private static int lastOf(int set) {
        int last = 0;
        for (int p = 0; p < 4; p++) {
            last = (set >> p & 1) == 1 ? (int) Math.pow(5, p) : last;
        }
        return last;
    }

    private static void way() {
        StoneMeet x = Due.caveOf("cave drops 1;pair gap 1;pair gap 2;pair gap 3;pair gap 9;");
        for (int i : new int[] {LEAST, LEAST + 1, -2, -1}) {
            is(22, "way(15, " + i + ")", x.way(15, i), -3);
            is(22, "way(0, " + i + ")", x.way(0, i), -3);
        }
        for (int i : new int[] {15, 16, GREATEST - 1, GREATEST}) {
            is(22, "way(15, " + i + ")", x.way(15, i), -1);
        }
        int[] due = {1, 5, 5, 25, 25, 25, 125, 125, 125, 125, 125, 125, 125, 125, 125};
        for (int i = 0; i < 15; i++) {
            is(22, "way(15, " + i + ")", x.way(15, i), due[i]);
        }
        x = Due.caveOf("cave drops 0;pair gap 1;");
        is(22, "it can't be", x.way(1, 0), -1);
        is(22, "i below 0, ahead of it can't be", x.way(1, -1), -3);
        x = Due.caveOf("cave drops 4;pair gap 9;pair gap 9;pair gap 9;pair gap 9;grows:if drops=4 then 9 else 0 end;");
        for (int i = 0; i < 4; i++) {
            is(22, "way(15, " + i + ")", x.way(15, i), 4 * (int) Math.pow(5, i));
        }
        is(22, "the greatest leading alone", x.way(8, 0), 500);
    }

    private static void rows() {
        StoneMeet x = Due.caveOf("cave drops 4;pair gap 0;pair gap 0;pair gap 0;pair gap 9;");
        long all = 1;
        for (int n = 0; n <= 8; n++) {
            is(23, "rows(7, " + n + ")", x.rows(7, n), all);
            is(23, "rows(0, " + n + ")", x.rows(0, n), all);
            all *= 35;
        }
        for (int n : Due.outside(0, 8)) {
            for (int set = 0; set < 16; set += 5) {
                is(23, "rows(" + set + ", " + n + ")", x.rows(set, n), -3);
            }
        }
        x = Due.caveOf("cave drops 1;pair gap 8;pair gap 0;");
        is(23, "one row of eight years", x.rows(1, 8), 1);
        is(23, "none of seven", x.rows(1, 7), 0);
        x = Due.caveOf("cave drops 1;pair gap 9;pair gap 0;");
        is(23, "none of eight", x.rows(1, 8), 0);
        x = Due.caveOf("cave drops 1;pair gap 2;pair gap 9;falls:gaps=9 and met=1;");
        // Both years to pair 0, then whatever it be; or the other pair first, or between.
        is(23, "fallen as it meets", x.rows(1, 2), 1);
        is(23, "and behind it", x.rows(1, 3), 2 + 1 + 1);
        x = Due.caveOf("cave drops 1;pair gap 2;pair gap 9;falls:gaps=10;");
        is(23, "fallen ahead of it", x.rows(1, 8), 0);
    }

    private static void most() {
        is(24, "no pairs", Due.caveOf("cave drops 4;").most(), 0);
        for (int met = 0; met <= 4; met++) {
            String pairs = "pair gap 0;".repeat(met) + "pair gap 9;".repeat(4 - met);
            is(24, "now", Due.caveOf("cave drops 0;" + pairs).most(), met);
            is(24, "all in the end", Due.caveOf("cave drops 1;" + pairs).most(), 4);
            is(24, "the roof falls", Due.caveOf("cave drops 4;" + pairs + "falls:1=1;grows:if drops=4 then 9 else 0 end;").most(),
                    Math.min(4, met + 1));
        }
        StoneMeet x = Due.caveOf("cave drops 4;pair gap 9;pair gap 0;falls:1=1;");
        x.year(1);
        is(24, "it has fallen", x.most(), 1);
    }

    private static void holding() {
        is(25, "no law", Due.caveOf("cave drops 4;").holding(), -1);
        is(25, "it never falls", Due.caveOf("cave drops 0;falls:1=2;").holding(), -1);
        is(25, "not a year", Due.caveOf("cave drops 0;falls:1=1;").holding(), 0);
        is(25, "35 years", Due.caveOf(QUEUE + "falls:met=4;").holding(), 35);
        // All ways to the end are as long: 36 drops, one a year, none of them wasted on who has met.
        String one = "cave drops 1;pair gap 9;pair gap 9;pair gap 9;pair gap 9;";
        is(25, "the roof holds while nothing is wasted", Due.caveOf(one + "falls:met=1;").holding(), 32);
        is(25, "wasted for ever", Due.caveOf(one + "falls:met=2;").holding(), -1);
        StoneMeet x = Due.caveOf("cave drops 1;pair gap 5;falls:gaps<3;");
        is(25, "two", x.holding(), 2);
        x.year(0);
        is(25, "one", x.holding(), 1);
        x.year(0);
        is(25, "none", x.holding(), 0);
        x.year(0);
        is(25, "it has fallen", x.holding(), -5);
        x.undo(1);
        is(25, "none", x.holding(), 0);
        x = Due.caveOf("cave drops 1;pair gap 5;");
        x.year(1);
        is(25, "no law, behind a year", x.holding(), -1);
        is(25, "it stays behind a year", Due.caveOf("cave drops 0;pair gap 2;grows:gap-1;falls:gaps=9;").holding(), -1);
        is(25, "it stays at once", Due.caveOf("cave drops 0;pair gap 2;grows:0;falls:gaps=9;").holding(), -1);
        // One pair goes round, the other way ends.
        x = Due.caveOf("cave drops 1;pair gap 2;pair gap 2;grows:if drops=1 then 1 else if gap=1 then 0-1 else 0 end end;falls:met=1;");
        is(25, "a round", x.holding(), -1);
    }

    private static void felling() {
        is(26, "no law", Due.caveOf("cave drops 4;").felling(), -1);
        is(26, "it can't be", Due.caveOf("cave drops 0;falls:1=2;").felling(), -1);
        is(26, "only if dry", Due.caveOf("cave drops 0;falls:dry=1;").felling(), -1);
        is(26, "at once", Due.caveOf("cave drops 0;falls:1=1;").felling(), 1);
        is(26, "36 years", Due.caveOf(QUEUE + "falls:met=4;").felling(), 36);
        String one = "cave drops 1;pair gap 9;pair gap 9;pair gap 9;pair gap 9;";
        is(26, "the nearest", Due.caveOf(one + "falls:met=1;").felling(), 9);
        is(26, "all", Due.caveOf(one + "falls:gaps=0;").felling(), 36);
        StoneMeet x = Due.caveOf("cave drops 1;pair gap 2;falls:gaps=0;");
        is(26, "two", x.felling(), 2);
        x.year(0);
        is(26, "one", x.felling(), 1);
        x.year(0);
        is(26, "it has fallen", x.felling(), -5);
        x = Due.caveOf("cave drops 1;pair gap 0;falls:gaps=0;");
        is(26, "the law holds now, the roof too", x.felling(), 1);
        is(25, "the law holds now, the roof too", x.holding(), 0);
    }

    private static void stands() {
        is(27, "no pairs", Due.caveOf("cave drops 4;").stands(), 1);
        is(27, "no pairs, fallen behind a year", Due.caveOf("cave drops 4;falls:1=1;").stands(), 2);
        is(27, "all have met", Due.caveOf("cave drops 4;pair gap 0;pair gap 0;").stands(), 1);
        for (int gap = 0; gap <= 9; gap++) {
            is(27, "one by one", Due.caveOf("cave drops 1;pair gap " + gap + ";").stands(), gap + 1);
        }
        String nines = "cave drops 4;pair gap 9;pair gap 9;pair gap 9;pair gap 9;";
        is(27, "all that can be", Due.caveOf(nines + "grows:if drops=0 then 0 else 1 end;").stands(), 10000);
        String wider = nines + "grows:if drops=4 then 0-1 else if drops=0 then 0 else 1 end end;";
        is(27, "all that can be", Due.caveOf(wider).stands(), 10000);
        is(27, "and as they are, fallen", Due.caveOf(wider + "falls:gaps=36;").stands(), 10001);
        is(24, "all in the end", Due.caveOf(wider + "falls:gaps=36;").most(), 4);
        is(25, "for ever", Due.caveOf(wider + "falls:gaps=36;").holding(), -1);
        is(26, "at once", Due.caveOf(wider + "falls:gaps=36;").felling(), 1);
        is(27, "fallen in one year", Due.caveOf(nines + "grows:if drops=0 then 0 else 1 end;falls:1=1;").stands(), 16);
        StoneMeet x = Due.caveOf(nines + "falls:1=1;");
        x.year(1);
        is(27, "it has fallen", x.stands(), 1);
    }

    // ---- 28 to 32

    private static final Sight[] SIGHTS = {
        (x, tray, p) -> x.seen(tray, p),
        (x, tray, p) -> x.seenDry(tray, p, 0),
        (x, tray, p) -> x.surely(tray, p, 0),
        (x, tray, p) -> x.chalks(tray, p),
        (x, tray, p) -> x.attempt(tray, p),
    };

    /** What all five calls are refused for, each by itself. */
    private static void sightCodes() {
        for (int k = 0; k < SIGHTS.length; k++) {
            StoneMeet x = Due.caveOf(FOUR);
            x.numbers(1, 3, 1);
            for (int tray : Due.outside(0, 3)) {
                is(28 + k, "tray " + tray, SIGHTS[k].of(x, tray, 0), -2);
            }
            for (int p : Due.outside(0, 3)) {
                is(28 + k, "pair " + p, SIGHTS[k].of(x, 1, p), -2);
            }
            for (int tray : new int[] {0, 2, 3}) {
                is(28 + k, "missing " + tray, SIGHTS[k].of(x, tray, 0), -6);
            }
            for (int size = 0; size <= 40; size++) {
                x.numbers(1, size % 4, size);
                for (int i = 0; i < size; i++) {
                    x.write(1, i, -1);
                }
                boolean can = size >= 1 && size <= 10;
                if (!can || size == 1 || size == 10) {
                    is(28 + k, size + " numbers", SIGHTS[k].of(x, 1, 0) == -4 ? -4 : 0, can ? 0 : -4);
                }
                x = size % 8 == 0 ? Due.caveOf(FOUR) : x;
            }
        }
    }

    /** -2 ahead of -6, ahead of -4, ahead of -3, ahead of -5, ahead of NONE. */
    private static void sightFirst() {
        for (int k = 0; k < SIGHTS.length; k++) {
            StoneMeet x = Due.caveOf(FOUR);
            is(28 + k, "the tray, the pair", SIGHTS[k].of(x, 4, 4), -2);
            is(28 + k, "the pair, ahead of missing", SIGHTS[k].of(x, 0, 4), -2);
            x.numbers(0, 3, 11);
            x.write(0, 0, 10);
            is(28 + k, "the pair, ahead of too many", SIGHTS[k].of(x, 0, 4), -2);
            is(28 + k, "too many, ahead of a number", SIGHTS[k].of(x, 0, 0), -4);
            is(28 + k, "too many, ahead of it has met", SIGHTS[k].of(x, 0, 3), -4);
            x.numbers(0, 3, 2);
            x.write(0, 1, 10);
            is(28 + k, "the pair, ahead of a number", SIGHTS[k].of(x, 0, -1), -2);
            is(28 + k, "a number, ahead of it has met, of none", SIGHTS[k].of(x, 0, 3), -3);
            is(29, "a number, and i", x.seenDry(0, 0, -1), -3);
            is(30, "what, ahead of a number", x.surely(0, 0, 2), -2);
            x.numbers(0, 3, 0);
            is(28 + k, "no numbers", SIGHTS[k].of(x, 0, 0), -4);
            is(29, "no numbers, ahead of i", x.seenDry(0, 0, -1), -4);
            is(30, "what, ahead of no numbers", x.surely(0, 0, -1), -2);
            is(29, "missing, ahead of i", x.seenDry(1, 0, -1), -6);
            is(29, "no such pair, ahead of i", x.seenDry(1, 4, -1), -2);
            is(30, "what, ahead of missing", x.surely(1, 0, 2), -2);
        }
    }

    private static void sightNumbers() {
        long[] wrong = {Long.MIN_VALUE, -(1L << 32) - 1, -(1L << 32), LEAST, -3, -2, 10, 11, 255, 65535, GREATEST, (1L << 32) - 1,
            1L << 32, (1L << 32) + 5, Long.MAX_VALUE};
        for (int k = 0; k < SIGHTS.length; k++) {
            for (long v : wrong) {
                for (int place = 0; place < 10; place += 3) {
                    StoneMeet x = Due.caveOf(FOUR);
                    Due.fill(x, 2, -1, -1, -1, -1, -1, -1, -1, -1, -1, -1);
                    x.write(2, place, v);
                    is(28 + k, v + " at " + place, SIGHTS[k].of(x, 2, 1), -3);
                }
            }
            StoneMeet x = Due.caveOf(FOUR);
            for (int v = -1; v <= 9; v++) {
                Due.fill(x, 2, v);
                is(28 + k, v + " can be", SIGHTS[k].of(x, 2, 1) >= -1 ? 1 : 0, 1);
            }
        }
        // Cut to its sort, a number may be what it wasn't.
        StoneMeet x = Due.caveOf(FOUR);
        x.numbers(0, 0, 1);
        x.write(0, 0, 256 + 7);
        is(28, "263 of 8 bits is 7", x.seen(0, 0), 1);
        x.write(0, 0, 255);
        is(28, "255 of 8 bits is NONE", x.seen(0, 0), 2);
        x.numbers(0, 1, 1);
        x.write(0, 0, 255);
        is(28, "255 of 16 bits isn't", x.seen(0, 0), -3);
        x.write(0, 0, 65535);
        is(28, "65535 of 16 bits is NONE", x.seen(0, 0), 2);
        x.numbers(0, 2, 1);
        x.write(0, 0, (1L << 32) - 1);
        is(28, "all 32 bits are NONE", x.seen(0, 0), 2);
        x.numbers(0, 3, 1);
        x.write(0, 0, (1L << 32) - 1);
        is(28, "32 bits of 64 aren't", x.seen(0, 0), -3);
    }

    private static void seen() {
        StoneMeet x = Due.caveOf("cave drops 1;pair gap 9;pair gap 0;");
        for (int size = 1; size <= 10; size++) {
            x.numbers(0, 0, size);
            for (int i = 0; i < size; i++) {
                x.write(0, i, -1);
            }
            is(28, "none of " + size + " was seen", x.seen(0, 0), 1 << size);
            x.write(0, size - 1, Math.max(0, 9 - size));
            is(28, "all of " + size + " wet", x.seen(0, 0), size == 10 ? 11 : 1);
            x.write(0, size - 1, 9);
            is(28, "all of " + size + " dry", x.seen(0, 0), 1);
            is(28, "of one that has met", x.seen(0, 1), 0);
            for (int i = 0; i < size; i++) {
                x.write(0, i, 0);
            }
            is(28, "met for " + size + " years", x.seen(0, 1), 1 << size);
            is(28, "never", x.seen(0, 0), 0);
        }
        is(28, "nothing is done", x.count(6) + x.count(7), 0);
    }

    private static void seenDry() {
        StoneMeet x = Due.caveOf("cave drops 1;pair gap 9;pair gap 0;");
        Due.fill(x, 0, 9, 8, 8, 7, 7, 7, 6, 5, 4, 3);
        int[] dry = {1, 0, 1, 0, 1, 1, 0, 0, 0, 0};
        for (int i = 0; i < 10; i++) {
            is(29, "year " + i, x.seenDry(0, 0, i), dry[i]);
        }
        for (int i : new int[] {10, 11, 31, 32, 33, GREATEST - 1, GREATEST}) {
            is(29, "not so many", x.seenDry(0, 0, i), -1);
        }
        for (int i : new int[] {LEAST, LEAST + 1, -33, -32, -2, -1}) {
            is(29, "i is " + i, x.seenDry(0, 0, i), -3);
            is(29, "i is " + i + ", and there are none", x.seenDry(0, 1, i), -3);
        }
        is(29, "there are none", x.seenDry(0, 1, 0), -1);
        is(29, "there are none, far", x.seenDry(0, 1, GREATEST), -1);
        Due.fill(x, 0, -1, -1, -1, -1, -1, -1, -1, -1, -1, 8);
        // One of the ten is not dry: of all such rows the one with that year first.
        for (int i = 0; i < 10; i++) {
            is(29, "not dry first, year " + i, x.seenDry(0, 0, i), i == 0 ? 0 : 1);
        }
        Due.fill(x, 0, -1);
        is(29, "one year", x.seenDry(0, 0, 0), 0);
        is(29, "one year", x.seenDry(0, 0, 1), -1);
    }

    private static void surely() {
        StoneMeet x = Due.caveOf("cave drops 1;pair gap 9;pair gap 0;");
        Due.fill(x, 0, 9, 9, 9, 9, 9, 9, 9, 9, 9, 9);
        is(30, "all dry", x.surely(0, 0, 1), 1023);
        is(30, "none not dry", x.surely(0, 0, 0), 0);
        Due.fill(x, 0, 8, 7, 6, 5, 4, 3, 2, 1, 0, 0);
        is(30, "nine not dry", x.surely(0, 0, 0), 511);
        is(30, "none dry", x.surely(0, 0, 1), 0);
        is(30, "there are none", x.surely(0, 1, 0), 0);
        is(30, "there are none", x.surely(0, 1, 1), 0);
        Due.fill(x, 0, -1, -1, -1, -1, -1, -1, -1, -1, -1, 9);
        is(30, "the last alone was seen", x.surely(0, 0, 1), 1023);
        Due.fill(x, 0, -1, -1, -1, -1, -1, -1, -1, -1, -1, -1);
        is(30, "nothing is sure", x.surely(0, 0, 1), 0);
        is(30, "nothing is sure", x.surely(0, 0, 0), 0);
        Due.fill(x, 0, -1, 8, -1, 7, -1, -1, -1, -1, 7, 6);
        is(30, "dry between", x.surely(0, 0, 1), 16 + 32 + 64 + 128 + 256);
        is(30, "not dry the last", x.surely(0, 0, 0), 512);
        for (int what : Due.outside(0, 1)) {
            is(30, "what " + what, x.surely(0, 0, what), -2);
            is(30, "what " + what + " of a missing tray", x.surely(1, 0, what), -2);
        }
    }

    private static void chalks() {
        StoneMeet x = Due.caveOf("cave drops 1;pair gap 9 chalk 5;pair gap 0;grows:chalk;");
        for (int gap = 0; gap <= 9; gap++) {
            Due.fill(x, 0, gap);
            is(31, "gap " + gap, x.chalks(0, 0), 1 << (9 - gap));
            is(31, "of one that has met", x.chalks(0, 1), gap == 0 ? 1023 : 0);
        }
        Due.fill(x, 0, -1, -1, -1, -1, -1, -1, -1, -1, -1, 0);
        is(31, "all but 0", x.chalks(0, 0), 1022);
        Due.fill(x, 0, -1, -1, -1, -1, -1, -1, -1, 1, -1, 0);
        is(31, "1 alone", x.chalks(0, 0), 2);
        Due.fill(x, 0, -1);
        is(31, "not seen", x.chalks(0, 0), 1023);
        is(31, "chalk stays", x.pair(0, 1), 5);
        x = Due.caveOf("cave drops 1;pair gap 9;grows:if dry=1 then 0 else chalk end;");
        Due.fill(x, 0, 9, 8);
        is(31, "no year is dry", x.chalks(0, 0), 0);
    }

    private static void attempt() {
        StoneMeet x = Due.caveOf("cave drops 0;pair gap 9;pair gap 0;grows:chalk*(4-drops);");
        Due.fill(x, 0, -1);
        // Drops 3 tell all apart, 4 none.
        is(32, "three", x.attempt(0, 0), 3);
        is(32, "it has met", x.attempt(0, 1), -5);
        Due.fill(x, 0, 5);
        is(32, "one chalk is left: no drops", x.attempt(0, 0), 0);
        Due.fill(x, 0, 6);
        is(32, "there are none", x.attempt(0, 0), -1);
        is(32, "it has met, ahead of there are none", x.attempt(0, 1), -5);
        x = Due.caveOf("cave drops 0;pair gap 9;grows:if drops=4 then chalk else 0 end;");
        Due.fill(x, 0, 9);
        is(32, "four", x.attempt(0, 0), 4);
        x = Due.caveOf("cave drops 0;pair gap 9;grows:if drops=0 then chalk else 0 end;");
        Due.fill(x, 0, -1);
        is(32, "none", x.attempt(0, 0), 0);
        x = Due.caveOf("cave drops 0;pair gap 9;grows:0;");
        Due.fill(x, 0, -1);
        is(32, "all alike: the fewest", x.attempt(0, 0), 0);
        // By -9 and less, by 9 and more it would grow as much.
        x = Due.caveOf("cave drops 0;pair gap 9;grows:if drops=0 then 9+chalk else if drops=1 then 0-9-chalk else if drops=2 then "
                + "8+chalk else 0 end end end;");
        Due.fill(x, 0, -1);
        is(32, "8, then 9 nine times", x.attempt(0, 0), 2);
        x = Due.caveOf("cave drops 0;pair gap 9;grows:if drops=3 then 0-8-chalk else 0-9-chalk end;");
        Due.fill(x, 0, -1);
        is(32, "-8, then -9 nine times", x.attempt(0, 0), 3);
    }

    // ---- 33, 34

    private static void forces() {
        for (int pairs = 0; pairs <= 4; pairs++) {
            StoneMeet x = Due.caveOf("cave drops 1;" + "pair gap 2;".repeat(pairs) + "grows:1;");
            for (int p : Due.outside(0, pairs - 1)) {
                is(33, "forces(" + p + ") of " + pairs, x.forces(p), -2);
                is(34, "best(" + p + ") of " + pairs, x.best(p), -2);
            }
            for (int p = 0; p < pairs; p++) {
                is(33, "forces(" + p + ") of " + pairs, x.forces(p), 2);
                is(34, "best(" + p + ") of " + pairs, x.best(p), 1);
            }
        }
        StoneMeet x = Due.caveOf(QUEUE);
        for (int p = 0; p < 4; p++) {
            is(33, "one behind the other", x.forces(p), 9 * (p + 1));
        }
        is(33, "it has", Due.caveOf(FOUR).forces(3), 0);
        is(33, "the lamp dries all", Due.caveOf(FOUR).forces(0), -1);
        is(33, "as the roof falls", Due.caveOf("cave drops 0;pair gap 9;grows:9;falls:1=1;").forces(0), 1);
        is(33, "the roof falls ahead", Due.caveOf("cave drops 0;pair gap 9;grows:8;falls:1=1;").forces(0), -1);
        is(33, "the lamp fells it", Due.caveOf("cave drops 0;pair gap 9;grows:8;falls:dry=1;").forces(0), -1);
        is(33, "the lamp leaves it wet", Due.caveOf("cave drops 0;pair gap 9;grows:8;falls:dry=0;").forces(0), -1);
        x = Due.caveOf("cave drops 0;pair gap 9;pair gap 0;grows:8;falls:1=1;");
        x.year(0);
        is(33, "fallen", x.forces(0), -1);
        is(33, "fallen, it has", x.forces(1), 0);
        is(34, "fallen", x.best(0), -1);
        is(34, "fallen, it has", x.best(1), -1);
        // Drops too soon may leave pair 1 at 9 for ever; once pair 0 has met, a year is enough.
        x = Due.caveOf("cave drops 1;pair gap 3;pair gap 5;grows:if pair=0 then 1 else if gap=9 then 0 else if met=1 then 5 else "
                + "if drops=0 then 0 else if dry=1 then 0-9 else 9 end end end end end;");
        is(33, "the first pair", x.forces(0), 3);
        is(33, "the second, behind the first", x.forces(1), 4);
        is(34, "the second, behind the first", x.best(1), 1);
    }

    private static void best() {
        StoneMeet x = Due.caveOf("cave drops 4;pair gap 1;pair gap 1;pair gap 1;pair gap 1;grows:drops-dry;");
        // Two drops are enough; the rest is led to pair 0.
        int[] least = {4, 2 + 2 * 5, 2 + 2 * 25, 2 + 2 * 125};
        for (int p = 0; p < 4; p++) {
            is(33, "in one year", x.forces(p), 1);
            is(34, "the least number with two drops of " + p, x.best(p), least[p]);
        }
        x = Due.caveOf("cave drops 4;pair gap 9;pair gap 9;pair gap 9;pair gap 9;grows:if drops=4 then 9 else 0 end;");
        is(34, "the greatest leading alone", x.best(3), 500);
        is(34, "the least leading", x.best(0), 4);
        is(34, "it doesn't", Due.caveOf("cave drops 4;pair gap 9;").best(0), -1);
        is(34, "it has met", Due.caveOf("cave drops 4;pair gap 0;grows:9;").best(0), -1);
        // One drop does it in three years, two in two: within as few.
        x = Due.caveOf("cave drops 2;pair gap 3;pair gap 9;grows:drops;");
        is(33, "two years", x.forces(0), 2);
        is(34, "either of them first, by number", x.best(0), 2);
        x = Due.caveOf("cave drops 2;pair gap 9;pair gap 3;grows:drops;");
        is(34, "of the other pair: one drop, then two", x.best(1), 6);
    }

    // ---- 35 to 37

    private static void chanceCodes() {
        StoneMeet x = Due.caveOf(FOUR + "dry 5;");
        for (int p : Due.outside(0, 3)) {
            is(35, "the pair ahead of the years", x.chance(p, 9, 0), -2);
            is(36, "the pair ahead of the years", x.mean(p, -1, 1), -2);
            is(35, "pair " + p, x.chance(p, 0, 0), -2);
            is(36, "pair " + p, x.mean(p, 8, 0), -2);
        }
        for (int what : Due.outside(0, 1)) {
            is(35, "what ahead of the years", x.chance(0, 9, what), -2);
            is(36, "what ahead of the years", x.mean(0, 9, what), -2);
            is(37, "what ahead of the years", x.fallen(9, what), -2);
            is(35, "what " + what, x.chance(3, 0, what), -2);
            is(36, "what " + what, x.mean(3, 0, what), -2);
            is(37, "what " + what, x.fallen(0, what), -2);
        }
        for (int n : Due.outside(0, 8)) {
            for (int what = 0; what < 2; what++) {
                is(35, n + " years", x.chance(0, n, what), -3);
                is(35, n + " years, it has met", x.chance(3, n, what), -3);
                is(36, n + " years", x.mean(0, n, what), -3);
                is(37, n + " years", x.fallen(n, what), -3);
            }
        }
        is(35, "nothing is done", x.count(6) + x.count(7), 0);
    }

    private static void fraction(String told, StoneMeet x, int n, int above, int below) {
        is(35, told + " in " + n + " years, above", x.chance(0, n, 0), above);
        is(35, told + " in " + n + " years, below", x.chance(0, n, 1), below);
    }

    private static void chances() {
        for (int dry = 0; dry <= 10; dry++) {
            StoneMeet x = Due.caveOf("cave drops 1;pair gap 1;dry " + dry + ";falls:met=1;");
            int common = dry == 0 || dry == 10 ? 10 : dry == 5 ? 5 : dry % 2 == 0 ? 2 : 1;
            fraction("dry " + dry, x, 0, 0, 1);
            fraction("dry " + dry, x, 1, (10 - dry) / common, 10 / common);
            is(37, "fallen by then", x.fallen(1, 0), (10 - dry) / common);
            is(37, "fallen by then", x.fallen(1, 1), 10 / common);
            is(36, "the gap on the mean", x.mean(0, 1, 0), dry / common);
            is(36, "the gap on the mean", x.mean(0, 1, 1), 10 / common);
        }
        StoneMeet x = Due.caveOf("cave drops 1;pair gap 8;dry 9;falls:gaps=0;");
        fraction("once", x, 8, 1, 100000000);
        fraction("not in seven", x, 7, 0, 1);
        is(37, "once", x.fallen(8, 1), 100000000);
        is(37, "not in seven", x.fallen(7, 1), 1);
        x = Due.caveOf("cave drops 1;pair gap 1;dry 9;");
        fraction("all but 9 to the eighth", x, 8, 100000000 - 43046721, 100000000);
        // Pair 0 grows by 1 in the eighth year, if all eight are dry: 9 less one in a hundred million.
        x = Due.caveOf("cave drops 0;pair gap 9;pair gap 7;dry 1;grows:if pair=1 then dry else if met=1 then dry else 0 end end;");
        is(36, "as much as can be, above", x.mean(0, 8, 0), 899999999);
        is(36, "as much as can be, below", x.mean(0, 8, 1), 100000000);
        is(36, "not in seven", x.mean(0, 7, 0), 9);
        is(36, "not in seven", x.mean(0, 7, 1), 1);
        is(36, "it has met", Due.caveOf("cave drops 0;pair gap 0;dry 3;").mean(0, 8, 0), 0);
        is(36, "it has met", Due.caveOf("cave drops 0;pair gap 0;dry 3;").mean(0, 8, 1), 1);
        x = Due.caveOf("cave drops 0;pair gap 3;dry 7;falls:dry=1;");
        x.year(1);
        is(37, "fallen now, in no years", x.fallen(0, 0), 1);
        is(37, "fallen now, in eight", x.fallen(8, 0), 1);
        is(37, "fallen now, in eight", x.fallen(8, 1), 1);
        is(37, "no law", Due.caveOf("cave drops 0;dry 7;").fallen(8, 0), 0);
        is(37, "no law", Due.caveOf("cave drops 0;dry 7;").fallen(8, 1), 1);
        is(37, "no pairs", Due.caveOf("cave drops 0;dry 7;falls:dry=0;").fallen(8, 0), 100000000 - 5764801);
    }

    // ---- no pairs, and four of them

    private static void noPairs() {
        StoneMeet x = Due.caveOf("cave drops 4;dry 3;grows:9;falls:dry=1 and gaps=0 and widest=0 and met=0;");
        is(43, "pairs", x.count(0), 0);
        is(43, "drops", x.count(1), 4);
        is(43, "the leading", x.count(4), 0);
        is(43, "who has met", x.count(2), 0);
        is(43, "gaps", x.count(3), 0);
        is(7, "leadings()", x.leadings(), 1);
        is(9, "lead(4)", x.lead(4), -11);
        is(9, "lead(0)", x.lead(0), 0);
        is(18, "order(0)", x.order(0), -1);
        is(19, "falls()", x.falls(), -1);
        is(21, "soonest(0)", x.soonest(0), 0);
        is(21, "soonest(1)", x.soonest(1), -3);
        is(22, "way(0, 0)", x.way(0, 0), -1);
        is(23, "rows(0, 8)", x.rows(0, 8), 1);
        is(24, "most()", x.most(), 0);
        is(25, "holding()", x.holding(), -1);
        is(26, "felling()", x.felling(), -1);
        is(27, "stands()", x.stands(), 1);
        is(37, "fallen in a year, above", x.fallen(1, 0), 3);
        is(37, "fallen in a year, below", x.fallen(1, 1), 10);
        is(37, "fallen in two, above", x.fallen(2, 0), 51);
        is(8, "a dry year", x.year(1), 0);
        is(43, "fallen", x.count(5), 1);
        is(10, "no such pair, ahead of fallen", x.saw(0), -11);
        is(25, "it has fallen", x.holding(), -5);
        is(26, "it has fallen", x.felling(), -5);
        is(27, "stands()", x.stands(), 1);
        is(23, "rows(0, 8)", x.rows(0, 8), 1);
        is(21, "soonest(0)", x.soonest(0), 0);
    }

    /** All that is asked of a pair, asked of the last that there can be. */
    private static void fourthPair() {
        StoneMeet x = Due.caveOf("cave drops 4;pair gap 0;pair gap 0;pair gap 0;pair gap 6 chalk 2;lead 0 0 0 4;dry 5;"
                + "grows:if dry=1 then 0 else drops*chalk-6 end;");
        is(6, "grown(3, 4, 0)", x.grown(3, 4, 0), 2);
        is(6, "grown(3, 0, 0)", x.grown(3, 0, 0), -6);
        is(16, "lies(3, 1)", x.lies(3, 1), 4);
        is(17, "meets(3)", x.meets(3), 3);
        is(18, "order(3)", x.order(3), 3);
        is(20, "moved(3, 3, 0)", x.moved(3, 3, 0), -99000001);
        is(20, "moved(0, 3, 2)", x.moved(0, 3, 2), 0);
        is(20, "moved(3, 0, 3)", x.moved(3, 0, 3), -99000005);
        is(21, "soonest(8)", x.soonest(8), 3);
        is(21, "soonest(15)", x.soonest(15), 3);
        for (int i = 0; i < 3; i++) {
            is(22, "way(8, " + i + ")", x.way(8, i), 500);
        }
        is(22, "way(8, 3)", x.way(8, 3), -1);
        is(23, "rows(8, 3)", x.rows(8, 3), 1);
        is(24, "most()", x.most(), 4);
        is(33, "forces(3)", x.forces(3), -1);
        is(34, "best(3)", x.best(3), -1);
        is(35, "chance(3, 3, 1)", x.chance(3, 3, 1), 8);
        is(36, "mean(3, 1, 0)", x.mean(3, 1, 0), 5);
        Due.fill(x, 3, 6, 4, 4, 2);
        is(28, "seen(3, 3)", x.seen(3, 3), 1);
        is(29, "seenDry(3, 3, 2)", x.seenDry(3, 3, 2), 1);
        is(30, "surely(3, 3, 1)", x.surely(3, 3, 1), 5);
        is(30, "surely(3, 3, 0)", x.surely(3, 3, 0), 10);
        Due.fill(x, 3, 4);
        is(31, "chalks(3, 3)", x.chalks(3, 3), 4);
        is(32, "attempt(3, 3)", x.attempt(3, 3), 0);
        is(40, "lists(3, 3)", x.lists(3, 3), 1);
        is(8, "year(0)", x.year(0), 0);
        is(10, "saw(3)", x.saw(3), 4);
        is(11, "chalk(3, 3)", x.chalk(3, 3), 2);
        is(8, "year(0)", x.year(0), 1);
        is(43, "who has met", x.count(2), 15);
        is(12, "undo(1)", x.undo(1), 3);
        is(43, "gaps", x.count(3), 6);
    }
}
