/** Each promise of the document by its number: ordinary calls, the edges that it names, each code. */
public final class PromisesTest {
    private static final Due due = new Due();
    private static final String TWO = "cave drops 2;pair gap 5;pair gap 3 chalk 2;lead 1 1;dry 5;"
            + "grows: if dry=1 then 0 else drops*chalk end;";
    /** The roof falls as soon as two years have gone by with both drops to pair 0. */
    private static final String ROOF = "cave drops 2;pair gap 4;pair gap 4;lead 2 0;falls: gaps<5;";

    public static void main(String[] args) {
        newObject();
        feed();
        cave();
        fault();
        pair();
        grown();
        leadings();
        year();
        yearsByTheLaws();
        lead();
        saw();
        chalk();
        undo();
        judge();
        perform();
        fallenWithoutGaps();
        age();
        lies();
        meets();
        order();
        falls();
        moved();
        soonest();
        way();
        rows();
        most();
        holding();
        felling();
        stands();
        seen();
        seenDry();
        surely();
        chalks();
        attempt();
        forces();
        best();
        chance();
        mean();
        fallen();
        asNew();
        numbers();
        write();
        lists();
        image();
        restore();
        count();
        due.is("NONE", StoneMeet.NONE, -1);
        due.end("PromisesTest");
    }

    private static void is(int promise, String call, long got, long want) {
        due.is("promise " + promise + ": " + call, got, want);
    }

    private static void newObject() {
        StoneMeet x = new StoneMeet();
        for (int what = 0; what < 10; what++) {
            is(1, "count(" + what + ")", x.count(what), 0);
        }
        is(1, "pair(0, 0)", x.pair(0, 0), -2);
        is(1, "leadings()", x.leadings(), 1);
        is(1, "fault(0)", x.fault(0), 0);
        is(1, "fault(1)", x.fault(1), -1);
        is(1, "restore(1)", x.restore(1), -5);
        is(1, "perform(3)", x.perform(3), -6);
    }

    private static void feed() {
        StoneMeet x = new StoneMeet();
        for (int i = 1; i <= 45; i++) {
            is(2, "feed", x.feed(0x20202020, 0, 0, 0, 0x20202020), 20 * i);
        }
        is(2, "feed over 900", x.feed(0, 0, 0, 0, 0), -5);
        is(2, "count(8)", x.count(8), 900);
        // The highest byte of each int first, the ints in turn.
        x = new StoneMeet();
        x.feed(0x63617665, 0x2064726f, 0x70732033, 0x3b202020, 0xffffffff);
        is(2, "cave(16)", x.cave(16), 1);
        is(2, "count(1)", x.count(1), 3);
    }

    private static void cave() {
        StoneMeet x = new StoneMeet();
        is(3, "cave(1)", x.cave(1), -3);
        is(3, "cave(-1)", x.cave(-1), -3);
        Due.tape(x, "cave drops 2;pair gap 5;");
        is(3, "cave(41)", x.cave(41), -3);
        is(3, "the tape stays", x.count(8), 40);
        is(3, "cave(40)", x.cave(40), 2);
        is(3, "the tape is empty", x.count(8), 0);
        is(3, "lines", x.count(9), 2);
        x.year(0);
        is(3, "gap", x.pair(0, 0), 3);
        is(3, "a fault", Due.tell(x, "cave drops 5;"), -33);
        is(3, "the tape is empty", x.count(8), 0);
        is(3, "gap", x.pair(0, 0), 3);
        is(3, "years", x.count(6), 1);
        is(3, "undoable", x.count(7), 1);
        is(3, "lines", x.count(9), 2);
        is(3, "cave(0)", x.cave(0), -32);
        is(3, "its place", x.fault(1), 0);
        is(3, "another", Due.tell(x, "cave drops 0;pair gap 9;pair gap 1;dry 3;"), 4);
        is(3, "years", x.count(6), 0);
        is(3, "undoable", x.count(7), 0);
        x = Due.caveOf("cave drops 0;pair gap 2;falls: met=0;");
        x.year(0);
        is(3, "fell", x.count(5), 1);
        is(3, "only a part is read", cut(x, "cave drops 1;pair gap 2;lead", 24), 2);
        is(3, "holds", x.count(5), 0);
        StringBuilder longest = new StringBuilder("cave drops 1;");
        while (longest.length() + 6 <= 900) {
            longest.append("dry 9;");
        }
        while (longest.length() < 900) {
            longest.append('\n');
        }
        is(3, "900 bytes", Due.tell(x, longest.toString()), 148);
    }

    private static int cut(StoneMeet x, String text, int n) {
        Due.tape(x, text);
        return x.cave(n);
    }

    private static void fault() {
        StoneMeet x = new StoneMeet();
        Due.tell(x, "cave drops 2;pair gap 9;pair gap 10;");
        is(4, "fault(0)", x.fault(0), 3);
        is(4, "fault(1)", x.fault(1), 33);
        is(4, "fault(2)", x.fault(2), -1);
        is(4, "fault(-1)", x.fault(-1), -1);
        x.cave(5);
        is(4, "not read", x.fault(0), 3);
        Due.tell(x, "cave drops 2;");
        is(4, "fault(0)", x.fault(0), 0);
        is(4, "fault(1)", x.fault(1), -1);
    }

    private static void pair() {
        StoneMeet x = Due.caveOf("cave drops 3;pair gap 5;pair gap 9 chalk 7 chalk 4;lead 3 0;lead 1 2;");
        is(5, "gap", x.pair(1, 0), 9);
        is(5, "chalk, the later one", x.pair(1, 1), 4);
        is(5, "chalk, untold", x.pair(0, 1), 1);
        is(5, "drops, the later leading", x.pair(1, 2), 2);
        is(5, "drops", x.pair(0, 2), 1);
        x.year(0);
        is(5, "gap", x.pair(1, 0), 7);
        is(5, "the gap told", x.pair(1, 3), 9);
        x.lead(3);
        is(5, "drops", x.pair(0, 2), 3);
        is(5, "no such pair", x.pair(2, 0), -2);
        is(5, "no such pair", x.pair(-1, 0), -2);
        is(5, "no such what", x.pair(0, 4), -2);
        is(5, "no such what", x.pair(0, -1), -2);
        x = Due.caveOf("cave drops 4;pair gap 1;pair gap 2;");
        is(5, "all to pair 0", x.pair(0, 2), 4);
        is(5, "none to pair 1", x.pair(1, 2), 0);
    }

    private static void grown() {
        StoneMeet x = Due.caveOf(TWO);
        is(6, "grown(0, 2, 0)", x.grown(0, 2, 0), 2);
        is(6, "grown(1, 4, 0)", x.grown(1, 4, 0), 8);
        is(6, "grown(1, 4, 1)", x.grown(1, 4, 1), 0);
        x.chalk(1, 9);
        is(6, "kept to 9", x.grown(1, 4, 0), 9);
        is(6, "no such pair", x.grown(2, 9, 9), -99000002);
        is(6, "no such pair", x.grown(-1, 0, 0), -99000002);
        is(6, "drops", x.grown(0, 5, 0), -99000003);
        is(6, "drops", x.grown(0, -1, 0), -99000003);
        is(6, "dry", x.grown(0, 0, 2), -99000003);
        is(6, "dry", x.grown(0, 0, -1), -99000003);
        x = Due.caveOf("cave drops 2;pair gap 2;pair gap 0;grows: pair*100-drops*3-gap-met;");
        is(6, "below 0", x.grown(0, 1, 0), -6);
        is(6, "kept to -9", x.grown(0, 4, 1), -9);
        is(6, "it has met", x.grown(1, 4, 0), 0);
        x = Due.caveOf("cave drops 1;pair gap 2;");
        is(6, "no law", x.grown(0, 4, 0), 4);
        is(6, "no law, dry", x.grown(0, 4, 1), 0);
    }

    private static void leadings() {
        is(7, "no pairs", Due.caveOf("cave drops 3;").leadings(), 1);
        is(7, "one pair", Due.caveOf("cave drops 3;pair gap 1;").leadings(), 1);
        is(7, "no drops", Due.caveOf("cave drops 0;pair gap 1;pair gap 1;").leadings(), 1);
        is(7, "two by 4", Due.caveOf("cave drops 4;pair gap 1;pair gap 1;").leadings(), 5);
        is(7, "three by 2", Due.caveOf("cave drops 2;pair gap 1;pair gap 1;pair gap 0;").leadings(), 6);
        is(7, "four by 4", Due.caveOf("cave drops 4;pair gap 1;pair gap 1;pair gap 1;pair gap 1;").leadings(), 35);
    }

    private static void year() {
        StoneMeet x = Due.caveOf("cave drops 4;pair gap 2;pair gap 1;pair gap 9;lead 2 1 1;");
        is(8, "dry", x.year(1), 0);
        is(8, "gaps", x.count(3), 12);
        is(8, "not dry", x.year(0), 2);
        is(8, "gaps", x.count(3), 8);
        is(8, "years", x.count(6), 2);
        is(8, "who has met stays so", x.year(0), 0);
        is(8, "bits", x.count(2), 3);
        is(8, "year(2)", x.year(2), -11);
        is(8, "year(-1)", x.year(-1), -11);
        is(8, "years", x.count(6), 3);
        is(8, "undoable", x.count(7), 3);
        x = Due.caveOf(ROOF);
        x.year(0);
        is(8, "it holds", x.count(5), 0);
        is(8, "it falls as one meets", x.year(0), 1);
        is(8, "it fell", x.count(5), 1);
        x.lead(10);
        is(8, "all stays", x.year(0), 0);
        is(8, "gap", x.pair(1, 0), 4);
        is(8, "but it is counted", x.count(6), 3);
    }

    private static void yearsByTheLaws() {
        StoneMeet x = Due.caveOf("cave drops 1;pair gap 8;pair gap 3;grows: 0-2;");
        x.year(0);
        is(8, "from 0 to 9", x.pair(0, 0), 9);
        is(8, "wider", x.pair(1, 0), 5);
        // All at once, as all was ahead: pair 1 knows nothing yet of pair 0's meeting.
        x = Due.caveOf("cave drops 1;pair gap 1;pair gap 5;grows: 1+met;");
        x.year(0);
        is(8, "met ahead", x.pair(1, 0), 4);
        x.year(0);
        is(8, "met then", x.pair(1, 0), 2);
        // The roof looks at what is then.
        x = Due.caveOf("cave drops 1;pair gap 1;falls: met=1 and gaps=0 and widest=0 and dry=0;");
        is(8, "met", x.year(0), 1);
        is(8, "fell", x.count(5), 1);
        x = Due.caveOf("cave drops 1;falls: widest=0 and dry=1;");
        x.year(0);
        is(8, "holds", x.count(5), 0);
        x.year(1);
        is(8, "falls without pairs", x.count(5), 1);
        grows("999*999*999-999*999-999-995", 5);
        grows("999*999*999-999*999*2+2", 2);
        grows("0-999*999*999+999*999*2-8", -8);
        grows("999*999+999*999-999*999-999-997", 3);
        grows("2-1-1+3*2*1", 6);
        grows("2+3*(4-2)", 8);
        grows("10-(2-1)-1", 8);
        grows("if 1=2 or 2=2 and 1<2 then 3 else 4 end", 3);
        grows("if not 1=2 and 2>3 then 3 else 4 end", 4);
        grows("if not [1=2 and 2>3] then 3 else 4 end", 3);
        grows("if 1=1 or 1=1 and 1=2 then 3 else 4 end", 3);
        grows("if [1=1 or 1=1] and 1=2 then 3 else 4 end*2", 8);
        grows("if not not not 1>2 then if 1<1 then 1 else 2 end+1 else 5 end", 3);
        grows("if gap=7 and chalk=6 and pair=0 and drops=1 and dry=0 and met=0 then 5 else 1 end", 5);
        grows("1", 1);
        is(8, "the later law strikes", Due.caveOf("cave drops 1;pair gap 7;grows: 3;grows: 4;").grown(0, 0, 0), 4);
    }

    private static void grows(String law, int want) {
        is(6, law, Due.caveOf("cave drops 1;pair gap 7 chalk 6;grows:" + law + ";").grown(0, 1, 0), want);
    }

    private static void lead() {
        StoneMeet x = Due.caveOf("cave drops 2;pair gap 9;pair gap 9;pair gap 9;");
        is(9, "lead(50)", x.lead(50), 2);
        is(9, "lead(6)", x.lead(6), 50);
        is(9, "the leading", x.count(4), 6);
        is(9, "the same", x.lead(6), 6);
        is(9, "undoable", x.count(7), 3);
        is(9, "too many", x.lead(7), -11);
        is(9, "too few", x.lead(5), -11);
        is(9, "no such pair", x.lead(250), -11);
        is(9, "no such pair", x.lead(625 * 2), -11);
        is(9, "below 0", x.lead(-1), -11);
        is(9, "undoable", x.count(7), 3);
        x = Due.caveOf("cave drops 2;");
        is(9, "no pairs", x.lead(0), 0);
        is(9, "no pairs", x.lead(2), -11);
        x = Due.caveOf("cave drops 0;pair gap 1;falls: 1=1;");
        x.year(0);
        is(9, "the roof has fallen", x.lead(0), 0);
    }

    private static void saw() {
        StoneMeet x = Due.caveOf("cave drops 2;pair gap 2;pair gap 6;falls: dry=1;");
        x.year(0);
        is(10, "who has met", x.saw(0), 0);
        is(10, "as told", x.pair(0, 0), 2);
        is(10, "saw(1)", x.saw(1), 6);
        is(10, "saw(2)", x.saw(2), -11);
        is(10, "saw(-1)", x.saw(-1), -11);
        is(10, "undoable", x.count(7), 3);
        x.year(1);
        is(10, "fallen", x.saw(1), -12);
        is(10, "no such pair first", x.saw(2), -11);
    }

    private static void chalk() {
        StoneMeet x = Due.caveOf("cave drops 2;pair gap 9;pair gap 9 chalk 3;grows: chalk;falls: dry=1;");
        is(11, "chalk(1, 0)", x.chalk(1, 0), 3);
        is(11, "chalk(1, 9)", x.chalk(1, 9), 0);
        is(11, "pair", x.pair(1, 1), 9);
        is(11, "the other one", x.pair(0, 1), 1);
        is(11, "chalk(1, 10)", x.chalk(1, 10), -11);
        is(11, "chalk(1, -1)", x.chalk(1, -1), -11);
        is(11, "chalk(2, 0)", x.chalk(2, 0), -11);
        is(11, "chalk(-1, 0)", x.chalk(-1, 0), -11);
        is(11, "it meets", x.year(0), 1);
        x.year(1);
        is(11, "the roof has fallen", x.chalk(0, 5), 1);
        is(11, "undoable", x.count(7), 5);
    }

    private static void undo() {
        StoneMeet x = Due.caveOf(ROOF);
        is(12, "nothing", x.undo(1), -3);
        x.year(0);
        x.lead(10);
        x.chalk(0, 8);
        x.lead(2);
        x.year(0);
        x.year(1);
        is(12, "fell", x.count(5), 1);
        is(12, "undo(0)", x.undo(0), -3);
        is(12, "undo(-1)", x.undo(-1), -3);
        is(12, "undo(11)", x.undo(11), -3);
        is(12, "undo(7)", x.undo(7), -3);
        is(12, "years", x.count(6), 3);
        is(12, "undo(2)", x.undo(2), 4);
        is(12, "it holds", x.count(5), 0);
        is(12, "gap", x.pair(0, 0), 2);
        is(12, "years", x.count(6), 1);
        is(12, "undo(2)", x.undo(2), 2);
        is(12, "chalk", x.pair(0, 1), 1);
        is(12, "leading", x.count(4), 10);
        is(12, "undo(2)", x.undo(2), 0);
        is(12, "leading", x.count(4), 2);
        is(12, "gap", x.pair(0, 0), 4);
        x = Due.caveOf("cave drops 0;pair gap 9;grows: 1;");
        for (int i = 0; i < 13; i++) {
            x.year(0);
        }
        is(12, "ten at most", x.count(7), 10);
        is(12, "undo(10)", x.undo(10), 0);
        is(12, "three are forgotten", x.pair(0, 0), 6);
        is(12, "years", x.count(6), 3);
    }

    private static void judge() {
        StoneMeet x = Due.caveOf("cave drops 2;pair gap 4;pair gap 3;falls: gaps=1;");
        is(13, "missing", x.judge(0, 0), -6);
        is(13, "no such tray", x.judge(4, 0), -2);
        is(13, "no such tray", x.judge(-1, 0), -2);
        is(13, "no such what, first", x.judge(0, 4), -2);
        is(13, "no such what", x.judge(0, -1), -2);
        Due.fill(x, 0, 0, 0, 1010, 0, 10, 0);
        is(13, "the place", x.judge(0, 0), 4);
        is(13, "why", x.judge(0, 1), 2);
        is(13, "who has met", x.judge(0, 2), 1);
        is(13, "gaps", x.judge(0, 3), 1);
        is(13, "nothing is done", x.count(3), 7);
        is(13, "undoable", x.count(7), 0);
        Due.fill(x, 1, 0, 0, 10, 1, 119, 103, 1006);
        is(13, "none", x.judge(1, 0), -1);
        is(13, "no why", x.judge(1, 1), 0);
        is(13, "who has met", x.judge(1, 2), 0);
        is(13, "gaps", x.judge(1, 3), 7);
        long[] wrong = {2, 9, 12, 19, 20, 99, 120, 199, 200, 999, 1000, 1003, 1050, 1999, 2000, -1, 1L << 32, Long.MIN_VALUE};
        for (long deed : wrong) {
            Due.fill(x, 2, 0, deed);
            is(13, "deed " + deed + ", place", x.judge(2, 0), 1);
            is(13, "deed " + deed + ", why", x.judge(2, 1), 1);
            is(13, "deed " + deed + ", gaps", x.judge(2, 3), 5);
        }
        Due.fill(x, 3);
        is(13, "no deeds", x.judge(3, 0), -1);
        is(13, "no deeds", x.judge(3, 3), 7);
    }

    private static void perform() {
        StoneMeet x = Due.caveOf("cave drops 2;pair gap 4;pair gap 3;falls: gaps=1;");
        is(14, "missing", x.perform(1), -6);
        is(14, "no such tray", x.perform(4), -2);
        is(14, "no such tray", x.perform(-1), -2);
        Due.fill(x, 1, 0, 109, 0, 1010, 0, 11, 0);
        is(14, "till one can't be", x.perform(1), 5);
        is(14, "gap", x.pair(1, 0), 1);
        is(14, "chalk", x.pair(0, 1), 9);
        is(14, "leading", x.count(4), 10);
        is(14, "years", x.count(6), 3);
        is(14, "undone as a whole", x.undo(1), 0);
        is(14, "gap", x.pair(1, 0), 3);
        is(14, "chalk", x.pair(0, 1), 1);
        Due.fill(x, 1, 100, 1, 11, 2);
        is(14, "the least numbers", x.perform(1), 3);
        is(14, "chalk 0", x.pair(0, 1), 0);
        x.undo(1);
        Due.fill(x, 1, 1, 9);
        is(14, "one", x.perform(1), 1);
        is(14, "one can be undone", x.undo(1), 0);
        Due.fill(x, 1, 5, 0);
        is(14, "none", x.perform(1), 0);
        is(14, "nothing to undo", x.count(7), 0);
        Due.fill(x, 1);
        is(14, "no deeds", x.perform(1), 0);
        is(14, "nothing to undo", x.count(7), 0);
    }

    /** All have met, and the roof has fallen: no gap is left to tell it by. */
    private static void fallenWithoutGaps() {
        StoneMeet x = Due.caveOf("cave drops 3;pair gap 3;pair gap 0;falls: gaps=0;");
        is(8, "it meets", x.year(0), 1);
        is(43, "fallen", x.count(5), 1);
        is(10, "saw(0)", x.saw(0), -12);
        is(25, "holding()", x.holding(), -5);
        is(26, "felling()", x.felling(), -5);
        is(19, "falls()", x.falls(), 0);
        is(27, "stands()", x.stands(), 1);
        is(37, "fallen(8, 0)", x.fallen(8, 0), 1);
        is(33, "forces(0)", x.forces(0), 0);
        Due.fill(x, 0, 10);
        is(13, "judge(0, 1)", x.judge(0, 1), 2);
        x = Due.caveOf("cave drops 3;pair gap 3;falls: gaps=0;");
        is(26, "felling()", x.felling(), 1);
        is(25, "holding()", x.holding(), 0);
        is(21, "soonest(1)", x.soonest(1), 1);
        is(23, "rows(1, 8)", x.rows(1, 8), 1);
        is(19, "falls()", x.falls(), 1);
    }

    private static void age() {
        StoneMeet x = Due.caveOf("cave drops 2;pair gap 4;pair gap 3;");
        is(15, "times", x.age(1, 0), -3);
        is(15, "times", x.age(1, 41), -3);
        is(15, "times", x.age(1, -1), -3);
        // The same by hand: draws, then deeds that can be in a tray each.
        for (int seed = -40; seed < 400; seed++) {
            StoneMeet a = Due.caveOf("cave drops 2;pair gap 9;pair gap 8;pair gap 7;grows: drops+chalk*dry-met;falls: gaps=6;");
            StoneMeet b = Due.caveOf("cave drops 2;pair gap 9;pair gap 8;pair gap 7;grows: drops+chalk*dry-met;falls: gaps=6;");
            int done = 0;
            int state = seed * 7919;
            for (int i = 0; i < 40; i++) {
                int[] draws = new int[3];
                int then = state;
                for (int k = 0; k < 3; k++) {
                    then = 1103515245 * then + 12345;
                    draws[k] = then >>> 16;
                }
                int kind = draws[0] % 6;
                int used = kind == 4 ? 3 : 2;
                long deed = kind < 3 ? draws[1] % 3 == 0 ? 1 : 0 : kind == 3 ? 10 + draws[1] % 4
                        : kind == 4 ? 100 + draws[1] % 4 * 10 + draws[2] % 10 : 1000 + draws[1] % 625;
                for (int k = 0; k < used; k++) {
                    state = 1103515245 * state + 12345;
                }
                Due.fill(b, 0, deed);
                done += b.perform(0);
            }
            is(15, "age by " + seed, a.age(seed * 7919, 40), done);
            for (int what = 2; what < 7; what++) {
                is(15, "count " + what + " by " + seed, a.count(what), b.count(what));
            }
            is(15, "undoable", a.count(7), done > 0 ? 1 : 0);
        }
        int refused = 0;
        for (int seed = 0; seed < 40; seed++) {
            x = new StoneMeet();
            int done = x.age(seed * 40503, 1);
            is(15, "undoable if some was done", x.count(7), done);
            refused += 1 - done;
        }
        is(15, "without pairs some can't be", refused > 5 && refused < 35 ? 1 : 0, 1);
    }

    private static void lies() {
        StoneMeet x = Due.caveOf(TWO);
        is(16, "lies(0, 0)", x.lies(0, 0), 5);
        is(16, "lies(0, 4)", x.lies(0, 4), 1);
        is(16, "lies(1, 2)", x.lies(1, 2), 0);
        is(16, "lies(0, 99999)", x.lies(0, 99999), 0);
        is(16, "too far", x.lies(0, 100000), -3);
        is(16, "below 0", x.lies(0, -1), -3);
        is(16, "no such pair", x.lies(2, -1), -2);
        is(16, "no such pair", x.lies(-1, 0), -2);
        // Gaps that go round: 9, 2, 3 .. 8, 9 in pair 0; 9, 5, 6, 7, 8, 9 in pair 1.
        x = Due.caveOf("cave drops 0;pair gap 9;pair gap 9;grows: if gap=9 then if pair=0 then 7 else 4 end else 0-1 end;");
        for (int n = 0; n < 60; n++) {
            is(16, "round, " + n, x.lies(0, n), n % 8 == 0 ? 9 : 1 + n % 8);
            is(16, "round, " + n, x.lies(1, n), n % 5 == 0 ? 9 : 4 + n % 5);
        }
        is(16, "round, far", x.lies(0, 99999), 8);
        is(16, "round, far", x.lies(1, 99998), 7);
        x = Due.caveOf("cave drops 0;pair gap 9;grows: if dry=1 then 9 else if gap=9 then 4 else 0-1 end end;");
        is(16, "round, none of them dry", x.lies(0, 99998), 7);
        x = Due.caveOf(ROOF);
        is(16, "behind the fall", x.lies(1, 50), 4);
        is(16, "behind the fall", x.lies(0, 50), 0);
    }

    private static void meets() {
        StoneMeet x = Due.caveOf("cave drops 3;pair gap 7;pair gap 2;pair gap 0;pair gap 1;lead 2 1 0 0;");
        is(17, "meets(0)", x.meets(0), 4);
        is(17, "meets(1)", x.meets(1), 2);
        is(17, "it has", x.meets(2), 0);
        is(17, "never", x.meets(3), -1);
        is(17, "no such pair", x.meets(4), -2);
        is(17, "no such pair", x.meets(-1), -2);
        x = Due.caveOf("cave drops 1;pair gap 1;pair gap 1;falls: met=1;");
        is(17, "as the roof falls", x.meets(0), 1);
        is(17, "behind the fall", x.meets(1), -1);
        x = Due.caveOf("cave drops 1;pair gap 3;pair gap 5;grows: if pair=0 then 1 else met*2 end;");
        is(17, "once another has", x.meets(1), 6);
    }

    private static void order() {
        StoneMeet x = Due.caveOf("cave drops 4;pair gap 4;pair gap 2;pair gap 0;pair gap 2;lead 1 1 0 2;");
        is(18, "order(0)", x.order(0), 2);
        is(18, "order(1)", x.order(1), 3);
        is(18, "order(2)", x.order(2), 1);
        is(18, "order(3)", x.order(3), 0);
        is(18, "order(4)", x.order(4), -1);
        is(18, "order(-1)", x.order(-1), -3);
        x.lead(4);
        is(18, "of one year by numbers", x.order(1), 0);
        is(18, "not so many", x.order(2), -1);
        x = Due.caveOf("cave drops 4;pair gap 4;pair gap 2;pair gap 4;grows: 2;");
        is(18, "order(1)", x.order(1), 0);
        is(18, "order(2)", x.order(2), 2);
        is(18, "far", x.order(Integer.MAX_VALUE), -1);
    }

    private static void falls() {
        StoneMeet x = Due.caveOf(ROOF);
        is(19, "falls()", x.falls(), 2);
        x.lead(6);
        is(19, "falls()", x.falls(), 2);
        x.year(0);
        is(19, "falls()", x.falls(), 1);
        x.year(0);
        is(19, "it has", x.falls(), 0);
        is(19, "no law", Due.caveOf("cave drops 1;pair gap 4;").falls(), -1);
        is(19, "never", Due.caveOf("cave drops 1;pair gap 4;falls: dry=1;").falls(), -1);
        // Two rounds of 8 and of 5: both are 9 at once behind 40 years, both 8 behind 39.
        String round = "cave drops 0;pair gap 9;pair gap 9;grows: if gap=9 then if pair=0 then 7 else 4 end else 0-1 end;";
        is(19, "rounds", Due.caveOf(round + "falls: gaps=18;").falls(), 40);
        is(19, "rounds", Due.caveOf(round + "falls: gaps=16 and widest=8;").falls(), 39);
    }

    private static void moved() {
        StoneMeet x = Due.caveOf("cave drops 3;pair gap 6;pair gap 6;pair gap 0;lead 2 1 0;");
        is(20, "later", x.moved(0, 0, 1), 3);
        is(20, "sooner", x.moved(1, 0, 1), -3);
        is(20, "not at all", x.moved(0, 1, 2), 0);
        is(20, "it has", x.moved(2, 0, 1), 0);
        is(20, "never so", x.moved(1, 1, 0), -99000001);
        is(20, "none is led there", x.moved(0, 2, 0), -99000005);
        is(20, "none is led there, first", x.moved(2, 2, 1), -99000005);
        is(20, "both one", x.moved(0, 1, 1), -99000002);
        is(20, "both one, first", x.moved(0, 2, 2), -99000002);
        is(20, "no such pair", x.moved(3, 0, 1), -99000002);
        is(20, "no such from", x.moved(0, 3, 1), -99000002);
        is(20, "no such from", x.moved(0, -1, 1), -99000002);
        is(20, "no such to", x.moved(0, 0, 3), -99000002);
        is(20, "nothing is led otherwise", x.count(4), 7);
        x.lead(3);
        is(20, "never as it is", x.moved(1, 0, 1), -99000001);
    }

    private static void soonest() {
        StoneMeet x = Due.caveOf("cave drops 2;pair gap 4;pair gap 3;pair gap 0;");
        is(21, "one", x.soonest(1), 2);
        is(21, "another", x.soonest(2), 2);
        is(21, "both", x.soonest(3), 4);
        is(21, "it has", x.soonest(4), 0);
        is(21, "none", x.soonest(0), 0);
        is(21, "all", x.soonest(7), 4);
        is(21, "others", x.soonest(8), -3);
        is(21, "others", x.soonest(-1), -3);
        is(21, "others", x.soonest(Integer.MIN_VALUE), -3);
        is(21, "it can't be", Due.caveOf("cave drops 0;pair gap 1;").soonest(1), -1);
        x = Due.caveOf("cave drops 1;pair gap 1;pair gap 1;falls: met=1;");
        is(21, "as the roof falls", x.soonest(2), 1);
        is(21, "it falls ahead", x.soonest(3), -1);
        x.year(0);
        is(21, "fallen, not met", x.soonest(2), -1);
        is(21, "fallen, met", x.soonest(1), 0);
        x = Due.caveOf("cave drops 1;pair gap 2;pair gap 2;falls: met=1;");
        is(21, "never both", x.soonest(3), -1);
        x = Due.caveOf("cave drops 1;pair gap 2;pair gap 2;falls: gaps=1;");
        is(21, "one short of it", x.soonest(3), -1);
    }

    private static void way() {
        StoneMeet x = Due.caveOf("cave drops 2;pair gap 4;pair gap 2;");
        // 3 years: 2 to pair 0 twice, to pair 1 once: the first row by numbers leads 2, 2, 10.
        is(22, "way(3, 0)", x.way(3, 0), 2);
        is(22, "way(3, 1)", x.way(3, 1), 2);
        is(22, "way(3, 2)", x.way(3, 2), 10);
        is(22, "not so many", x.way(3, 3), -1);
        is(22, "way(2, 0)", x.way(2, 0), 10);
        is(22, "nothing to do", x.way(0, 0), -1);
        is(22, "the set", x.way(4, 0), -3);
        is(22, "the set", x.way(-1, 0), -3);
        is(22, "i", x.way(3, -1), -3);
        x = Due.caveOf("cave drops 2;pair gap 3;pair gap 3;");
        is(22, "6 of 6 drops: first", x.way(3, 0), 2);
        is(22, "then one each", x.way(3, 1), 6);
        is(22, "then the rest", x.way(3, 2), 10);
        is(22, "it can't be", Due.caveOf("cave drops 0;pair gap 1;").way(1, 0), -1);
        x = Due.caveOf("cave drops 1;pair gap 2;pair gap 2;falls: met=1 and gaps>1;");
        is(22, "the roof is held", x.soonest(3), 4);
        is(22, "first 1", x.way(3, 0), 1);
        is(22, "then 5", x.way(3, 1), 5);
        is(22, "then 1", x.way(3, 2), 1);
        is(22, "then 5", x.way(3, 3), 5);
        x.year(0);
        is(22, "from now on", x.way(3, 0), 5);
    }

    private static void rows() {
        StoneMeet x = Due.caveOf("cave drops 1;pair gap 1;pair gap 2;");
        is(23, "rows(3, 3)", x.rows(3, 3), 3);
        is(23, "rows(3, 2)", x.rows(3, 2), 0);
        // Of 4 years at least 1 to pair 0 and at least 2 to pair 1: 6 + 4 of 16.
        is(23, "rows(3, 4)", x.rows(3, 4), 10);
        is(23, "rows(1, 0)", x.rows(1, 0), 0);
        is(23, "rows(0, 0)", x.rows(0, 0), 1);
        is(23, "rows(0, 8)", x.rows(0, 8), 256);
        is(23, "too many years", x.rows(0, 9), -3);
        is(23, "below 0", x.rows(0, -1), -3);
        is(23, "the set", x.rows(4, 0), -3);
        is(23, "the set", x.rows(-1, 0), -3);
        x = Due.caveOf("cave drops 1;pair gap 1;pair gap 2;falls: met=1;");
        is(23, "fallen, met", x.rows(1, 3), 6);
        is(23, "fallen", x.rows(3, 8), 0);
        x.year(0);
        is(23, "it has fallen", x.rows(1, 8), 256);
        is(23, "it has fallen", x.rows(2, 8), 0);
        x = Due.caveOf("cave drops 4;pair gap 0;pair gap 0;pair gap 0;pair gap 0;");
        is(23, "35 to the 8th", x.rows(15, 8), 2251875390625L);
        x = Due.caveOf("cave drops 4;pair gap 9;pair gap 0;pair gap 0;pair gap 0;grows: 2;");
        is(23, "35 to the 8th", x.rows(15, 8), 2251875390625L);
        is(23, "not in four", x.rows(15, 4), 0);
    }

    private static void most() {
        is(24, "none", Due.caveOf("cave drops 0;pair gap 1;").most(), 0);
        is(24, "now", Due.caveOf("cave drops 0;pair gap 1;pair gap 0;").most(), 1);
        is(24, "all", Due.caveOf("cave drops 1;pair gap 9;pair gap 0;pair gap 3;").most(), 3);
        is(24, "the roof falls", Due.caveOf("cave drops 1;pair gap 2;pair gap 2;falls: met=1;").most(), 1);
        StoneMeet x = Due.caveOf("cave drops 2;pair gap 1;pair gap 1;pair gap 2;falls: met>0;");
        is(24, "two at once as it falls", x.most(), 2);
        x.year(0);
        is(24, "fallen", x.most(), 1);
    }

    private static void holding() {
        is(25, "no law", Due.caveOf("cave drops 1;pair gap 9;").holding(), -1);
        is(25, "no pairs", new StoneMeet().holding(), -1);
        StoneMeet x = Due.caveOf("cave drops 2;pair gap 4;pair gap 4;falls: gaps<5;");
        is(25, "one", x.holding(), 1);
        x = Due.caveOf("cave drops 2;pair gap 4;pair gap 1;lead 2 0;falls: gaps<3;");
        // All drops on pair 1, for ever.
        is(25, "for ever", x.holding(), -1);
        x = Due.caveOf("cave drops 1;pair gap 4;pair gap 3;falls: gaps=0;");
        is(25, "for ever by wasting", x.holding(), -1);
        x = Due.caveOf("cave drops 1;pair gap 4;pair gap 3;grows: 1;falls: widest=1;");
        is(25, "two", x.holding(), 2);
        x = Due.caveOf("cave drops 0;pair gap 4;falls: 1=1;");
        is(25, "none", x.holding(), 0);
        x.year(0);
        is(25, "fallen", x.holding(), -5);
        x = Due.caveOf("cave drops 0;pair gap 9;grows: if gap=9 then 8 else 0-1 end;falls: gaps=0;");
        is(25, "a round", x.holding(), -1);
    }

    private static void felling() {
        is(26, "no law", Due.caveOf("cave drops 1;pair gap 9;").felling(), -1);
        is(26, "it can't be", Due.caveOf("cave drops 1;pair gap 9;falls: dry=1;").felling(), -1);
        StoneMeet x = Due.caveOf("cave drops 2;pair gap 4;pair gap 3;falls: met=2;");
        is(26, "felling()", x.felling(), 4);
        x = Due.caveOf("cave drops 2;pair gap 4;pair gap 3;falls: widest=3;");
        is(26, "at once", x.felling(), 1);
        x.year(0);
        is(26, "fallen", x.felling(), -5);
        x = Due.caveOf("cave drops 2;pair gap 4;pair gap 3;falls: gaps=0 or gaps=5 and met=1;");
        is(26, "the fewest", x.felling(), 4);
    }

    private static void stands() {
        is(27, "no pairs", new StoneMeet().stands(), 1);
        is(27, "one pair", Due.caveOf("cave drops 2;pair gap 5;").stands(), 4);
        is(27, "two pairs", Due.caveOf("cave drops 1;pair gap 2;pair gap 1;").stands(), 6);
        is(27, "the roof falls", Due.caveOf("cave drops 1;pair gap 2;pair gap 1;falls: met=1;").stands(), 5);
        // Now it holds, behind a year it has fallen with the same gaps.
        is(27, "holding and fallen", Due.caveOf("cave drops 0;pair gap 2;falls: 1=1;").stands(), 2);
        StoneMeet x = Due.caveOf("cave drops 1;pair gap 2;pair gap 1;falls: dry=1;");
        x.year(1);
        is(27, "fallen", x.stands(), 1);
    }

    private static StoneMeet sight() {
        return Due.caveOf("cave drops 2;pair gap 5;pair gap 3 chalk 2;lead 1 1;grows: if dry=1 then met else drops*chalk end;");
    }

    private static void seenCodes(int promise, String call, long noTray, long noPair, long missing) {
        is(promise, call + ": no such tray", noTray, -2);
        is(promise, call + ": no such pair, first", noPair, -2);
        is(promise, call + ": missing", missing, -6);
    }

    private static void seen() {
        StoneMeet x = sight();
        seenCodes(28, "seen", x.seen(4, 0), x.seen(0, 2), x.seen(0, 0));
        seenCodes(28, "seen", x.seen(-1, 0), x.seen(0, -1), x.seen(3, 0));
        Due.fill(x, 0);
        is(28, "none", x.seen(0, 0), -4);
        Due.fill(x, 0, 1, 2, 3, 4, 5, 6, 7, 8, 9, 0, 1);
        is(28, "eleven", x.seen(0, 0), -4);
        Due.fill(x, 0, 3, 10);
        is(28, "10", x.seen(0, 0), -3);
        Due.fill(x, 0, -2, 3);
        is(28, "-2", x.seen(0, 0), -3);
        Due.fill(x, 0, -1, -1, -1, -1, -1, -1, -1, -1, -1, -1);
        is(28, "not seen", x.seen(0, 0), 1024);
        Due.fill(x, 0, 4, -1, 3);
        // By wet, wet pair 1 has met, so that a dry year isn't idle: only wet, dry, wet is left.
        is(28, "one", x.seen(0, 0), 1);
        Due.fill(x, 0, 2);
        is(28, "never", x.seen(0, 0), 0);
        x = Due.caveOf(ROOF);
        x.year(0);
        x.year(0);
        Due.fill(x, 0, 4, 4, 4);
        is(28, "fallen: all rows", x.seen(0, 1), 8);
        is(28, "nothing is done", x.count(6), 2);
    }

    private static void seenDry() {
        StoneMeet x = sight();
        seenCodes(29, "seenDry", x.seenDry(4, 0, 0), x.seenDry(0, 2, 0), x.seenDry(0, 0, -1));
        Due.fill(x, 0);
        is(29, "none", x.seenDry(0, 0, -1), -4);
        Due.fill(x, 0, 10);
        is(29, "10", x.seenDry(0, 0, 0), -3);
        Due.fill(x, 0, -1, 4, 4);
        // Not dry first: wet, dry, dry comes ahead of dry, wet, dry.
        is(29, "i", x.seenDry(0, 0, -1), -3);
        is(29, "0", x.seenDry(0, 0, 0), 0);
        is(29, "1", x.seenDry(0, 0, 1), 1);
        is(29, "2", x.seenDry(0, 0, 2), 1);
        is(29, "not so many", x.seenDry(0, 0, 3), -1);
        is(29, "far", x.seenDry(0, 0, 99), -1);
        Due.fill(x, 0, 0);
        is(29, "there are none", x.seenDry(0, 0, 0), -1);
    }

    private static void surely() {
        StoneMeet x = sight();
        seenCodes(30, "surely", x.surely(4, 0, 0), x.surely(0, 2, 0), x.surely(0, 0, 1));
        is(30, "what, ahead of missing", x.surely(0, 0, 2), -2);
        is(30, "what", x.surely(0, 0, -1), -2);
        Due.fill(x, 0);
        is(30, "none", x.surely(0, 0, 0), -4);
        Due.fill(x, 0, 99);
        is(30, "99", x.surely(0, 0, 0), -3);
        Due.fill(x, 0, -1, 4, 4, 3);
        is(30, "dry", x.surely(0, 0, 1), 4);
        is(30, "not dry", x.surely(0, 0, 0), 8);
        Due.fill(x, 0, 0);
        is(30, "there are none", x.surely(0, 0, 1), 0);
        is(30, "there are none", x.surely(0, 0, 0), 0);
    }

    private static void chalks() {
        StoneMeet x = sight();
        seenCodes(31, "chalks", x.chalks(4, 0), x.chalks(0, 2), x.chalks(0, 0));
        Due.fill(x, 0);
        is(31, "none", x.chalks(0, 0), -4);
        Due.fill(x, 0, 10);
        is(31, "10", x.chalks(0, 0), -3);
        Due.fill(x, 0, 3);
        is(31, "two", x.chalks(0, 0), 1 << 2);
        Due.fill(x, 0, -1, 0);
        is(31, "3 and more", x.chalks(0, 0), 1016);
        Due.fill(x, 0, 5, 5, 5);
        is(31, "none of it", x.chalks(0, 0), 1);
        is(31, "another one's", x.chalks(0, 1), 0);
        is(31, "chalk stays", x.pair(0, 1), 1);
    }

    private static void attempt() {
        StoneMeet x = Due.caveOf("cave drops 1;pair gap 9 chalk 3;pair gap 4;lead 0 1;grows: if drops=0 then 0 else drops*chalk end;");
        seenCodes(32, "attempt", x.attempt(4, 0), x.attempt(0, 2), x.attempt(0, 0));
        Due.fill(x, 0);
        is(32, "none", x.attempt(0, 0), -4);
        Due.fill(x, 0, 10);
        is(32, "10", x.attempt(0, 0), -3);
        Due.fill(x, 0, 9, 9);
        is(32, "all chalks", x.chalks(0, 0), 1023);
        // 1 drop tells all ten apart; 2 and more keep the greater ones at 9.
        is(32, "attempt", x.attempt(0, 0), 1);
        Due.fill(x, 0, 2);
        is(32, "one chalk: the fewest drops", x.attempt(0, 1), 0);
        Due.fill(x, 0, 8);
        is(32, "there are none", x.attempt(0, 0), -1);
        x = Due.caveOf("cave drops 1;pair gap 9;grows: if chalk<4 then drops*2 else if chalk<6 then drops*drops else 7 end end;");
        Due.fill(x, 0, -1);
        // By drops 0: 0 six times; 1: 4, 2, 4; 2: 4 six times; 3: 6, 9 and 7: 4, 2, 4.
        is(32, "the greatest is least", x.attempt(0, 0), 1);
        // Four drops alone tell chalk 0 and 9 apart, by as little and as much as can be.
        x = Due.caveOf("cave drops 1;pair gap 9;pair gap 9;grows: if drops=4 then if chalk=9 then 99 else chalk-10 end else 0 end;");
        Due.fill(x, 0, 9);
        is(32, "four drops", x.attempt(0, 0), 4);
        // Drops 0: all ten alike; 1: nine; 2: one of -9 each, but chalk 0 and 9 alike.
        x = Due.caveOf("cave drops 0;pair gap 9;grows: if drops=0 then 0 else if drops=1 then if chalk=9 then 1 else 0 end"
                + " else if drops=2 then if chalk=0 then 0-9 else if chalk=9 then 0-9 else chalk end end else 0-9 end end end;");
        Due.fill(x, 0, -1);
        is(32, "the least and the greatest chalk", x.attempt(0, 0), 2);
        // Of seven alike among ten, the first drops.
        x = Due.caveOf("cave drops 0;pair gap 9;grows: if chalk<8 then drops*0 else drops+1 end;");
        Due.fill(x, 0, -1);
        is(32, "eight alike by any drops", x.attempt(0, 0), 0);
        // Only chalk 8 and 9 are left, alike without drops.
        x = Due.caveOf("cave drops 1;pair gap 9;pair gap 9;lead 0 1;"
                + "grows: if drops=0 then if chalk>7 then 1 else 0 end else if drops=1 then chalk-8 else 0 end end;");
        Due.fill(x, 0, 8);
        is(31, "8 and 9", x.chalks(0, 0), 768);
        is(32, "8 and 9", x.attempt(0, 0), 1);
        // A dry year would tell them apart, but it isn't dry.
        x = Due.caveOf("cave drops 0;pair gap 9;grows: if dry=1 then if drops=1 then chalk else 0 end else if drops=2 then chalk else 0 end end;");
        Due.fill(x, 0, 9);
        is(32, "not dry", x.attempt(0, 0), 2);
        x = Due.caveOf("cave drops 1;pair gap 1;");
        x.year(0);
        Due.fill(x, 0, 5);
        is(32, "it has met, ahead of none", x.attempt(0, 0), -5);
    }

    private static void forces() {
        StoneMeet x = Due.caveOf("cave drops 4;pair gap 9;pair gap 0;grows: drops-dry;");
        is(33, "three each year", x.forces(0), 3);
        is(33, "it has", x.forces(1), 0);
        is(33, "no such pair", x.forces(2), -2);
        is(33, "no such pair", x.forces(-1), -2);
        is(33, "dried for ever", Due.caveOf("cave drops 4;pair gap 1;").forces(0), -1);
        is(33, "the roof falls", Due.caveOf("cave drops 4;pair gap 5;grows: drops;falls: dry=1;").forces(0), -1);
        is(33, "as it falls", Due.caveOf("cave drops 4;pair gap 4;grows: drops;falls: dry=1;").forces(0), 1);
        // Pair 1 grows by itself once pair 0 has met, which takes two years.
        x = Due.caveOf("cave drops 2;pair gap 4;pair gap 3;grows: if pair=0 then drops else if met=1 then 1 else 0-dry end end;");
        is(33, "by another one", x.forces(1), 7);
        x.year(0);
        x.year(0);
        is(33, "then", x.forces(1), 3);
        is(33, "one by one", Due.caveOf("cave drops 1;pair gap 9;grows: 1;").forces(0), 9);
        is(33, "wet is worse", Due.caveOf("cave drops 1;pair gap 9;grows: 2+dry;").forces(0), 5);
        is(33, "wet is never", Due.caveOf("cave drops 1;pair gap 9;grows: dry;").forces(0), -1);
        // Leading 1 closes pair 0 if it is dry, 5 if it isn't: none of them whatever the lamp does.
        is(33, "neither", Due.caveOf("cave drops 1;pair gap 1;pair gap 1;grows: if drops=dry then 1 else 0 end;").forces(0), -1);
        // Without drops the gap is 1 wider: what is forced from 2 comes a year behind what is from 1.
        x = Due.caveOf("cave drops 1;pair gap 1;pair gap 9;lead 0 1;grows: if gap=1 then 0-1 else if gap=2 then 0-1 else 1+drops*2 end end;");
        is(33, "by a round", x.forces(0), 3);
        // Pair 1 meets in one year or two, as the lamp likes, pair 0 the year behind it.
        is(33, "the slower way", Due.caveOf("cave drops 0;pair gap 1;pair gap 2;grows: if pair=0 then met else 2-dry end;").forces(0), 3);
        is(33, "with no drops", Due.caveOf("cave drops 1;pair gap 3;pair gap 9;grows: if drops=0 then 3-dry else 0-9 end;").forces(0), 2);
        x = Due.caveOf("cave drops 0;pair gap 2;falls: 1=1;");
        x.year(0);
        is(33, "fallen", x.forces(0), -1);
    }

    private static void best() {
        StoneMeet x = Due.caveOf("cave drops 4;pair gap 6;pair gap 0;grows: drops-dry;");
        // 6 in two years: 4 less 1 is 3 at least.
        is(34, "best(0)", x.best(0), 4);
        is(34, "it has met", x.best(1), -1);
        is(34, "no such pair", x.best(2), -2);
        is(34, "no such pair", x.best(-1), -2);
        is(34, "never", Due.caveOf("cave drops 4;pair gap 1;").best(0), -1);
        x = Due.caveOf("cave drops 4;pair gap 5;pair gap 0;grows: drops-dry;");
        is(34, "first 4: 5 less 3, less 3", x.best(0), 4);
        x = Due.caveOf("cave drops 4;pair gap 3;pair gap 3;grows: drops;");
        is(34, "the first by number", x.best(1), 15 + 1);
    }

    private static void chance() {
        StoneMeet x = Due.caveOf("cave drops 1;pair gap 2;pair gap 0;dry 4;");
        is(35, "0 years", x.chance(0, 0, 0), 0);
        is(35, "0 years", x.chance(0, 0, 1), 1);
        // 0.6 * 0.6 = 9/25
        is(35, "2 years, above", x.chance(0, 2, 0), 9);
        is(35, "2 years, below", x.chance(0, 2, 1), 25);
        // 0.36 + 2 * 0.6 * 0.4 * 0.6 = 0.648 = 81/125
        is(35, "3 years, above", x.chance(0, 3, 0), 81);
        is(35, "3 years, below", x.chance(0, 3, 1), 125);
        is(35, "it has", x.chance(1, 8, 0), 1);
        is(35, "it has", x.chance(1, 8, 1), 1);
        is(35, "no such pair", x.chance(2, 9, 0), -2);
        is(35, "no such what", x.chance(0, 9, 2), -2);
        is(35, "no such what", x.chance(0, 0, -1), -2);
        is(35, "years", x.chance(0, 9, 0), -3);
        is(35, "years", x.chance(0, -1, 0), -3);
        x = Due.caveOf("cave drops 1;pair gap 8;dry 9;");
        is(35, "once in 100000000", x.chance(0, 8, 0), 1);
        is(35, "once in 100000000", x.chance(0, 8, 1), 100000000);
        is(35, "never dry", Due.caveOf("cave drops 1;pair gap 8;").chance(0, 8, 0), 1);
        is(35, "always dry", Due.caveOf("cave drops 1;pair gap 1;dry 3;dry 10;").chance(0, 8, 0), 0);
    }

    private static void mean() {
        StoneMeet x = Due.caveOf("cave drops 1;pair gap 2;pair gap 9;dry 4;");
        is(36, "0 years", x.mean(0, 0, 0), 2);
        is(36, "0 years", x.mean(0, 0, 1), 1);
        // 2 less 0.6 = 7/5; then 0.36 * 0 + 0.48 * 1 + 0.16 * 2 = 0.8
        is(36, "1 year, above", x.mean(0, 1, 0), 7);
        is(36, "1 year, below", x.mean(0, 1, 1), 5);
        is(36, "2 years, above", x.mean(0, 2, 0), 4);
        is(36, "2 years, below", x.mean(0, 2, 1), 5);
        is(36, "it stays", x.mean(1, 8, 0), 9);
        is(36, "it stays", x.mean(1, 8, 1), 1);
        is(36, "no such pair", x.mean(2, 9, 0), -2);
        is(36, "no such what", x.mean(0, 9, 2), -2);
        is(36, "years", x.mean(0, 9, 0), -3);
        is(36, "years", x.mean(0, -1, 0), -3);
        // A dry year is one less, and each is dry once in ten.
        x = Due.caveOf("cave drops 1;pair gap 9;dry 1;grows: if dry=1 then 1 else 0 end;");
        is(36, "8 years: 9 less 8/10", x.mean(0, 8, 0), 41);
        is(36, "8 years: 9 less 8/10", x.mean(0, 8, 1), 5);
        x = Due.caveOf("cave drops 1;pair gap 1;dry 3;grows: 1-dry;");
        is(36, "3 to the 8th", x.mean(0, 8, 0), 6561);
        is(36, "3 to the 8th", x.mean(0, 8, 1), 100000000);
    }

    private static void fallen() {
        StoneMeet x = Due.caveOf("cave drops 1;pair gap 3;dry 2;falls: dry=1 or widest=0;");
        is(37, "0 years", x.fallen(0, 0), 0);
        is(37, "0 years", x.fallen(0, 1), 1);
        is(37, "1 year", x.fallen(1, 0), 1);
        is(37, "1 year", x.fallen(1, 1), 5);
        // 1 less 0.64 = 9/25
        is(37, "2 years", x.fallen(2, 0), 9);
        is(37, "2 years", x.fallen(2, 1), 25);
        is(37, "3 years", x.fallen(3, 0), 1);
        is(37, "3 years", x.fallen(3, 1), 1);
        is(37, "no such what", x.fallen(9, 2), -2);
        is(37, "no such what", x.fallen(0, -1), -2);
        is(37, "years", x.fallen(9, 0), -3);
        is(37, "years", x.fallen(-1, 1), -3);
        x.year(1);
        is(37, "it has", x.fallen(0, 0), 1);
        x = Due.caveOf("cave drops 1;pair gap 8;dry 9;falls: met=1;");
        is(37, "8 years", x.fallen(8, 0), 1);
        is(37, "8 years", x.fallen(8, 1), 100000000);
        is(37, "no pairs", Due.caveOf("cave drops 1;dry 5;falls: dry=1;").fallen(1, 1), 2);
    }

    /** Nothing that was asked of one cave, or with other chalk, is left in the answers about the next. */
    private static void asNew() {
        StoneMeet x = new StoneMeet();
        String[] laws = {"", "grows: chalk;falls: gaps=4;", "grows: 2*chalk-dry;falls: gaps=2;", "falls: gaps<1;", "grows: dry*drops;"};
        for (int i = 0; i < 25; i++) {
            String text = "cave drops 2;pair gap 6;pair gap 0;dry 5;" + laws[i * 7 % 5];
            // Nothing is promised about an object's 513th call.
            x = i % 10 == 0 ? new StoneMeet() : x;
            Due.tell(x, text);
            for (int k = 0; k < 2; k++) {
                StoneMeet y = Due.caveOf(text);
                x.chalk(0, 1 + k * 2);
                y.chalk(0, 1 + k * 2);
                for (int dry = 0; dry < 2; dry++) {
                    is(6, "grown of " + text, x.grown(0, 1, dry), y.grown(0, 1, dry));
                }
                is(17, "meets of " + text, x.meets(0), y.meets(0));
                is(19, "falls of " + text, x.falls(), y.falls());
                is(27, "stands of " + text, x.stands(), y.stands());
                is(21, "soonest of " + text, x.soonest(1), y.soonest(1));
                is(26, "felling of " + text, x.felling(), y.felling());
                is(25, "holding of " + text, x.holding(), y.holding());
                is(33, "forces of " + text, x.forces(0), y.forces(0));
                is(37, "fallen of " + text, x.fallen(3, 1), y.fallen(3, 1));
                is(23, "rows of " + text, x.rows(1, 3), y.rows(1, 3));
            }
        }
        x = Due.caveOf("cave drops 1;pair gap 6;grows: chalk;");
        is(21, "by chalk 1", x.soonest(1), 6);
        is(27, "by chalk 1", x.stands(), 7);
        x.chalk(0, 3);
        is(27, "by chalk 3", x.stands(), 3);
        is(21, "by chalk 3", x.soonest(1), 2);
        x.image(0);
        Due.tell(x, "cave drops 1;pair gap 6 chalk 3;grows: 2;");
        is(21, "by two a year", x.soonest(1), 3);
        x.restore(0);
        is(21, "by chalk 3", x.soonest(1), 2);
        x.year(0);
        is(21, "from there", x.soonest(1), 1);
        is(22, "from there", x.way(1, 0), 1);
        is(22, "not so many", x.way(1, 1), -1);
    }

    private static void numbers() {
        StoneMeet x = Due.caveOf("cave drops 1;pair gap 9;");
        is(38, "numbers(0, 0, 40)", x.numbers(0, 0, 40), 0);
        is(38, "the last place", x.write(0, 39, 1), 1);
        is(38, "numbers(3, 3, 0)", x.numbers(3, 3, 0), 0);
        is(38, "no such tray", x.numbers(4, 0, 41), -2);
        is(38, "no such tray", x.numbers(-1, 0, 1), -2);
        is(38, "no such sort", x.numbers(0, 4, 41), -2);
        is(38, "no such sort", x.numbers(0, -1, 1), -2);
        is(38, "too many", x.numbers(0, 1, 41), -3);
        is(38, "below 0", x.numbers(0, 1, -1), -3);
        is(38, "the tray stays", x.write(0, 39, 200), -56);
        is(38, "in place of another", x.numbers(0, 1, 3), 0);
        is(38, "three", x.write(0, 3, 1), -7);
        is(38, "all 0: three years", x.perform(0), 3);
        is(38, "gap", x.pair(0, 0), 6);
        x.write(0, 1, 7);
        x.numbers(0, 1, 3);
        is(38, "all 0 anew", x.perform(0), 3);
    }

    private static void write() {
        StoneMeet x = new StoneMeet();
        is(39, "missing", x.write(0, 0, 1), -6);
        is(39, "no such tray", x.write(4, 0, 1), -2);
        is(39, "no such tray", x.write(-1, 0, 1), -2);
        long v = 0x1122334485868788L;
        long[] cut = {(byte) v, (short) v, (int) v, v};
        for (int sort = 0; sort < 4; sort++) {
            x.numbers(sort, sort, 2);
            is(39, "sort " + sort, x.write(sort, 1, v), cut[sort]);
            is(39, "sort " + sort + ", NONE", x.write(sort, 0, -1), -1);
            is(39, "no such number", x.write(sort, 2, 0), -7);
            is(39, "no such number", x.write(sort, -1, 0), -7);
        }
        is(39, "128", x.write(0, 0, 128), -128);
        is(39, "127", x.write(0, 0, 127), 127);
        is(39, "32768", x.write(1, 0, 32768), -32768);
        is(39, "the 32nd bit", x.write(2, 0, 1L << 31), Integer.MIN_VALUE);
        is(39, "Long.MIN_VALUE", x.write(3, 0, Long.MIN_VALUE), Long.MIN_VALUE);
        is(39, "256 is 0: a year", x.write(0, 0, 256), 0);
    }

    private static void lists() {
        StoneMeet x = Due.caveOf("cave drops 2;pair gap 7;pair gap 3;");
        is(40, "missing", x.lists(0, 0), -6);
        is(40, "no such tray", x.lists(4, 0), -2);
        is(40, "no such tray", x.lists(-1, 0), -2);
        is(40, "no such pair, first", x.lists(0, 2), -2);
        is(40, "no such pair", x.lists(0, -1), -2);
        Due.fill(x, 0, 9, 9, 9, 9, 9);
        is(40, "lists", x.lists(0, 0), 5);
        // 5, 3, 1, 0, 0: only rows without a dry year till it meets, then either.
        is(40, "seen as listed", x.seen(0, 0), 2);
        is(40, "nothing is done", x.count(6), 0);
        x.write(0, 3, 9);
        is(40, "another gap is never seen", x.seen(0, 0), 0);
        Due.fill(x, 1);
        is(40, "no places", x.lists(1, 0), 0);
        x.numbers(1, 0, 40);
        is(40, "forty", x.lists(1, 1), 40);
        is(40, "3 is no deed", x.judge(1, 0), 0);
    }

    private static void image() {
        StoneMeet x = Due.caveOf("cave drops 2;pair gap 7;");
        x.year(0);
        is(41, "image(0)", x.image(0), 0);
        is(41, "image(1)", x.image(1), 0);
        is(41, "image(2)", x.image(2), -2);
        is(41, "image(-1)", x.image(-1), -2);
        is(41, "still undoable", x.count(7), 1);
        x.year(0);
        x.image(1);
        x.year(0);
        x.restore(0);
        is(41, "the first", x.pair(0, 0), 5);
        x.restore(1);
        is(41, "made anew", x.pair(0, 0), 3);
    }

    private static void restore() {
        StoneMeet x = new StoneMeet();
        is(42, "none was made", x.restore(0), -5);
        is(42, "no such image", x.restore(2), -2);
        is(42, "no such image", x.restore(-1), -2);
        x.image(1);
        Due.tell(x, "cave drops 2;pair gap 7;pair gap 2 chalk 3;dry 4;falls: gaps<3;");
        x.lead(10);
        x.chalk(0, 9);
        x.year(0);
        x.year(1);
        x.image(0);
        is(42, "none was made", x.restore(1), 0);
        is(42, "no cave", x.count(0), 0);
        is(42, "no lines", x.count(9), 0);
        is(42, "no drops", x.count(1), 0);
        Due.tell(x, "cave drops 1;pair gap 1;");
        Due.fill(x, 2, 1);
        x.feed(0, 0, 0, 0, 0);
        is(42, "restore(0)", x.restore(0), 0);
        is(42, "gap", x.pair(0, 0), 7);
        is(42, "gap", x.pair(1, 0), 0);
        is(42, "told", x.pair(1, 3), 2);
        is(42, "chalk", x.pair(0, 1), 9);
        is(42, "leading", x.count(4), 10);
        is(42, "years", x.count(6), 2);
        is(42, "lines", x.count(9), 5);
        is(42, "nothing can be undone", x.count(7), 0);
        is(42, "nothing can be undone", x.undo(1), -3);
        is(42, "dry", x.chance(0, 0, 1), 1);
        is(42, "the law of the roof", x.falls(), -1);
        x.lead(2);
        is(42, "the law of the roof", x.falls(), 3);
        is(42, "the tape stays", x.count(8), 20);
        is(42, "the trays stay", x.perform(2), 1);
        is(42, "again", x.restore(0), 0);
        is(42, "years", x.count(6), 2);
        x = Due.caveOf("cave drops 0;pair gap 1;falls: 1=1;");
        x.year(0);
        x.image(0);
        x.undo(1);
        is(42, "it holds", x.count(5), 0);
        x.restore(0);
        is(42, "it has fallen", x.count(5), 1);
    }

    private static void count() {
        StoneMeet x = Due.caveOf("cave drops 3;pair gap 2;pair gap 0;pair gap 6;lead 1 0 2;falls: met=2;");
        is(43, "pairs", x.count(0), 3);
        is(43, "drops", x.count(1), 3);
        is(43, "met", x.count(2), 2);
        is(43, "gaps", x.count(3), 8);
        is(43, "leading", x.count(4), 51);
        is(43, "fallen", x.count(5), 0);
        x.year(1);
        x.year(0);
        x.year(0);
        is(43, "met", x.count(2), 3);
        is(43, "gaps", x.count(3), 2);
        is(43, "fallen", x.count(5), 1);
        is(43, "years", x.count(6), 3);
        is(43, "undoable", x.count(7), 3);
        x.feed(0, 0, 0, 0, 0);
        is(43, "tape", x.count(8), 20);
        is(43, "lines", x.count(9), 6);
        is(43, "others", x.count(10), -1);
        is(43, "others", x.count(-1), -1);
    }
}
