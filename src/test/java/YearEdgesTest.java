/** A year at its edges: the bounds of + - *, of growth, of a gap, each word of the laws, the roof. */
public final class YearEdgesTest {
    private static final Due due = new Due();
    /** A million, and as much below 0: as far as a sum goes. */
    private static final String M = "(999+1)*(999+1)";
    private static final String MINUS = "(0-" + M + ")";

    public static void main(String[] args) {
        sums();
        keptAtEachStep();
        truths();
        growth();
        withoutLaws();
        wordsOfGrows();
        wordsOfFalls();
        ahead();
        then();
        roof();
        due.end("YearEdgesTest");
    }

    // ---- sums

    /** Two sums are held against each other by all three signs, so that each is as great as the other. */
    private static void same(String a, String b) {
        compared(a, b, 0);
    }

    private static void less(String a, String b) {
        compared(a, b, -1);
        compared(b, a, 1);
    }

    private static void compared(String a, String b, int order) {
        holds(a + "=" + b, order == 0);
        holds(a + "<" + b, order < 0);
        holds(a + ">" + b, order > 0);
    }

    private static void holds(String truth, boolean so) {
        due.is("falls:" + truth, Due.caveOf("cave drops 0;falls:" + truth + ";").falls(), so ? 1 : -1);
        String grows = "grows:if " + truth + " then 3 else 4 end;";
        due.is(grows, Due.caveOf("cave drops 0;pair gap 9;" + grows).grown(0, 0, 0), so ? 3 : 4);
    }

    private static void sums() {
        same(M, "999*999+999+999+1");
        less("999*999+999+999", M);
        same(M + "+1", M);
        same(M + "+999", M);
        same(M + "+" + M, M);
        same(M + "-1", "999*999+999+999");
        less(M + "-1", M);
        same("1+" + M, M);
        same(MINUS + "-1", MINUS);
        same(MINUS + "-999", MINUS);
        same(MINUS + "-" + M, MINUS);
        same(MINUS + "+" + MINUS, MINUS);
        less(MINUS, MINUS + "+1");
        same("0-999*999-999-999-1", MINUS);
        less(MINUS, "0-999*999-999-999");
        same(M + "-" + MINUS, M);
        same(M + "*1", M);
        same(M + "*2", M);
        same("2*" + M, M);
        same(M + "*(" + M + ")", M);
        same(M + "*(" + M + ")*(" + M + ")", M);
        same(MINUS + "*2", MINUS);
        same("2*" + MINUS, MINUS);
        same(MINUS + "*(" + M + ")", MINUS);
        same(M + "*" + MINUS, MINUS);
        same(MINUS + "*" + MINUS, M);
        same(M + "*0", "0");
        same(MINUS + "*0", "0");
        // 999999 is 999 * 1001, and 1000 * 1001 is the first beyond.
        same("999*(999+2)", M + "-1");
        same("(999+1)*(999+2)", M);
        same("(0-999)*(999+2)", MINUS + "+1");
        same("(0-999-1)*(999+2)", MINUS);
        same("0-0", "0");
        same("0-5+5", "0");
        same("(0-3)*(0-4)", "12");
    }

    /** It is kept at each + - *, not at the end. */
    private static void keptAtEachStep() {
        same(M + "+1-1", M + "-1");
        same(M + "-1+1", M);
        same(M + "+" + M + "-" + M, "0");
        same(MINUS + "-1+1", MINUS + "+1");
        same(MINUS + "-" + M + "+" + M, "0");
        same(M + "*2-" + M, "0");
        same(MINUS + "*2+" + M, "0");
        same(M + "*3*0", "0");
        same("(" + M + "+5)*(0-1)", MINUS);
        same(M + "+5-5-5", M + "-10");
        same("if 1=1 then " + M + "+1 else 0 end", M);
    }

    private static void truths() {
        String yes = "1=1";
        String no = "1=2";
        String[] units = {no, yes};
        for (int i = 0; i < 8; i++) {
            boolean a = (i & 1) == 1;
            boolean b = (i & 2) == 2;
            boolean c = (i & 4) == 4;
            String x = units[i & 1];
            String y = units[i >> 1 & 1];
            String z = units[i >> 2];
            holds(x + " and " + y + " and " + z, a && b && c);
            holds(x + " or " + y + " or " + z, a || b || c);
            holds(x + " or " + y + " and " + z, a || b && c);
            holds(x + " and " + y + " or " + z, a && b || c);
            holds("[" + x + " or " + y + "] and " + z, (a || b) && c);
            holds("not " + x + " and " + y + " or not " + z, !a && b || !c);
            holds("not [" + x + " and " + y + "] and " + z, !(a && b) && c);
            holds("not not " + x + " or not [not " + y + " or " + z + "]", a || !(!b || c));
            holds("if " + x + " then 1 else 2 end=if not " + y + " then 2 else 1 end", a == b);
        }
        less("998", "999");
        less("0", "1");
        less("0-1", "0");
        same("999", "999");
    }

    // ---- growth

    private static int kept(int v, int least, int most) {
        return Math.max(least, Math.min(most, v));
    }

    private static void growth() {
        int[] laws = {-999, -100, -19, -18, -12, -11, -10, -9, -8, -5, -2, -1, 0, 1, 2, 5, 8, 9, 10, 11, 12, 18, 19, 100, 999};
        for (int law : laws) {
            String grows = "grows:" + (law < 0 ? "0-" + -law : "" + law) + ";";
            for (int gap = 0; gap <= 9; gap++) {
                StoneMeet x = Due.caveOf("cave drops 0;pair gap " + gap + ";" + grows);
                String of = " of gap " + gap + ", " + grows;
                int grown = gap == 0 ? 0 : kept(law, -9, 9);
                int left = kept(gap - grown, 0, 9);
                due.is("grown" + of, x.grown(0, 0, 0), grown);
                due.is("lies" + of, x.lies(0, 1), left);
                due.is("met" + of, x.year(0), gap > 0 && left == 0 ? 1 : 0);
                due.is("gap" + of, x.pair(0, 0), left);
                due.is("the gap told" + of, x.pair(0, 3), gap);
            }
        }
        due.is("a million", Due.caveOf("cave drops 0;pair gap 9;grows:" + M + "*2;").grown(0, 0, 0), 9);
        due.is("less a million", Due.caveOf("cave drops 0;pair gap 9;grows:" + MINUS + "*2;").grown(0, 0, 0), -9);
    }

    private static void withoutLaws() {
        for (int drops = 0; drops <= 4; drops++) {
            for (int gap = 0; gap <= 9; gap++) {
                StoneMeet x = Due.caveOf("cave drops " + drops + ";pair gap " + gap + ";pair gap " + gap + ";");
                due.is("dry", x.year(1), 0);
                due.is("gap, dry", x.pair(0, 0), gap);
                due.is("wet", x.year(0), gap > 0 && gap <= drops ? 1 : 0);
                due.is("gap, wet", x.pair(0, 0), kept(gap - drops, 0, 9));
                due.is("without drops", x.pair(1, 0), gap);
                due.is("it never falls", x.count(5), 0);
            }
        }
    }

    // ---- words

    private static void wordsOfGrows() {
        String four = "cave drops 4;pair gap 1 chalk 0;pair gap 9 chalk 9;pair gap 5 chalk 4;pair gap 8;";
        StoneMeet pair = Due.caveOf(four + "grows:pair;");
        StoneMeet chalk = Due.caveOf(four + "grows:chalk;");
        StoneMeet gap = Due.caveOf(four + "grows:gap;");
        StoneMeet drops = Due.caveOf(four + "grows:drops;");
        StoneMeet dry = Due.caveOf(four + "grows:dry;");
        int[] chalks = {0, 9, 4, 1};
        int[] gaps = {1, 9, 5, 8};
        for (int p = 0; p < 4; p++) {
            due.is("pair", pair.grown(p, 0, 0), p);
            due.is("chalk", chalk.grown(p, 0, 0), chalks[p]);
            due.is("gap", gap.grown(p, 0, 0), gaps[p]);
            for (int n = 0; n <= 4; n++) {
                due.is("drops", drops.grown(p, n, 1), n);
            }
            due.is("not dry", dry.grown(p, 4, 0), 0);
            due.is("dry", dry.grown(p, 4, 1), 1);
        }
        for (int n = 0; n <= 9; n++) {
            chalk.chalk(3, n);
            due.is("other chalk", chalk.grown(3, 0, 0), n);
            due.is("in a year, too", chalk.lies(3, 1), Math.max(0, 8 - n));
        }
        for (int met = 0; met <= 3; met++) {
            StoneMeet x = Due.caveOf("cave drops 0;" + "pair gap 0;".repeat(met) + "pair gap 5;".repeat(4 - met) + "grows:met;");
            due.is("met", x.grown(3, 0, 0), met);
            due.is("of one that has met", x.grown(0, 0, 0), 0);
        }
        for (int n = 0; n <= 4; n++) {
            StoneMeet x = Due.caveOf("cave drops 4;pair gap 9;pair gap 9;lead " + n + " " + (4 - n) + ";grows:drops*2;");
            x.year(n % 2);
            due.is("the drops led to it", x.pair(0, 0), 9 - 2 * n);
            due.is("the drops led to the other", x.pair(1, 0), 9 - 2 * (4 - n));
        }
    }

    private static void wordsOfFalls() {
        for (int all = 0; all <= 36; all++) {
            StringBuilder text = new StringBuilder("cave drops 0;");
            int widest = 0;
            int met = 0;
            for (int p = 0, left = all; p < 4; p++) {
                int gap = p % 2 == 0 ? Math.min(9, left) : left / (4 - p) + (left % (4 - p) > 0 ? 1 : 0);
                text.append("pair gap ").append(gap).append(';');
                left -= gap;
                widest = Math.max(widest, gap);
                met += gap == 0 ? 1 : 0;
            }
            word(text.toString(), "gaps", all);
            word(text.toString(), "widest", widest);
            word(text.toString(), "met", met);
        }
        for (int widest = 0; widest <= 9; widest++) {
            for (int p = 0; p < 4; p++) {
                String text = "cave drops 0;" + "pair gap 0;".repeat(p) + "pair gap " + widest + ";" + "pair gap 0;".repeat(3 - p);
                word(text, "widest", widest);
                word(text, "gaps", widest);
            }
        }
        for (String word : new String[] {"gaps", "widest", "met"}) {
            word("cave drops 4;", word, 0);
        }
        StoneMeet x = Due.caveOf("cave drops 0;pair gap 3;falls:dry=1;");
        x.year(0);
        due.is("not dry", x.count(5), 0);
        x.year(1);
        due.is("dry", x.count(5), 1);
        x = Due.caveOf("cave drops 0;pair gap 3;falls:dry=0;");
        x.year(1);
        due.is("dry", x.count(5), 0);
        x.year(0);
        due.is("not dry", x.count(5), 1);
        x = Due.caveOf("cave drops 0;pair gap 3;falls:dry>1 or dry<0;");
        x.year(1);
        x.year(0);
        due.is("neither", x.count(5), 0);
    }

    private static void word(String cave, String word, int value) {
        due.is(word + " of " + cave, Due.caveOf(cave + "falls:" + word + "=" + value + ";").falls(), 1);
        due.is(word + " of " + cave, Due.caveOf(cave + "falls:not " + word + "=" + value + ";").falls(), -1);
    }

    /** Growth by what was ahead, of all pairs at once. */
    private static void ahead() {
        StoneMeet x = Due.caveOf("cave drops 0;pair gap 1;pair gap 9;pair gap 1;pair gap 9;grows:1+met;");
        due.is("two meet", x.year(0), 2);
        due.is("behind one that met just now", x.pair(1, 0), 8);
        due.is("behind two that met just now", x.pair(3, 0), 8);
        due.is("none meets", x.year(0), 0);
        due.is("two had met", x.pair(1, 0), 5);
        due.is("two had met", x.pair(3, 0), 5);
        x = Due.caveOf("cave drops 0;pair gap 0;pair gap 2;grows:0-9;");
        x.year(0);
        due.is("who has met stays so", x.pair(0, 0), 0);
        due.is("the other doesn't", x.pair(1, 0), 9);
    }

    /** The roof by what is then. */
    private static void then() {
        StoneMeet x = Due.caveOf("cave drops 2;pair gap 2;pair gap 5;falls:met=1;");
        due.is("it meets", x.year(0), 1);
        due.is("and the roof falls in that year", x.count(5), 1);
        x = Due.caveOf("cave drops 2;pair gap 2;pair gap 5;falls:met=0;");
        due.is("it meets", x.year(0), 1);
        due.is("and no longer is 0", x.count(5), 0);
        x = Due.caveOf("cave drops 2;pair gap 2;pair gap 5;falls:gaps=7;");
        x.year(1);
        due.is("all are as they were told", x.count(5), 1);
        x = Due.caveOf("cave drops 2;pair gap 2;pair gap 5;falls:gaps=7;");
        x.year(0);
        due.is("but not any more", x.count(5), 0);
        x = Due.caveOf("cave drops 2;pair gap 8;falls:widest>8;grows:0-1;");
        x.year(0);
        due.is("wider than it was told", x.count(5), 1);
    }

    private static void roof() {
        StoneMeet x = Due.caveOf("cave drops 1;pair gap 5;pair gap 4;falls:1=1;");
        due.is("it holds, till a year goes by", x.count(5), 0);
        due.is("saw", x.saw(0), 5);
        x.lead(5);
        x.chalk(1, 7);
        due.is("no year", x.count(5) + x.count(6), 0);
        x.year(1);
        due.is("it falls", x.count(5), 1);
        due.is("with the year's growth", x.count(3), 9);
        for (int years = 2; years < 6; years++) {
            due.is("no one meets", x.year(years % 2), 0);
            due.is("all stays", x.pair(1, 0), 4);
            due.is("the year is counted", x.count(6), years);
        }
        due.is("for good", x.count(5), 1);
        due.is("to lead", x.lead(1), 5);
        due.is("to have chalk", x.chalk(0, 3), 1);
        due.is("to saw", x.saw(0), -12);
        due.is("still fallen", x.count(5), 1);
        x = Due.caveOf("cave drops 1;pair gap 5;falls:gaps=4;");
        x.year(0);
        x.year(0);
        due.is("for good, whatever the law tells then", x.count(5), 1);
        due.is("the gap stays", x.pair(0, 0), 4);
        x = new StoneMeet();
        for (int years = 1; years < 30; years++) {
            due.is("no pairs, no law", x.year(years % 2), 0);
            due.is("years", x.count(6), years);
        }
        due.is("holds", x.count(5), 0);
    }
}
