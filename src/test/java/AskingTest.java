/**
 * Each answer is by the cave as it is now, whatever was asked ahead: of two objects one is asked
 * everything before a deed, the other nothing, and then each call is the first behind it.
 */
public final class AskingTest {
    private static final Due due = new Due();

    private static final String[] NAMES = {
        "grown", "lies", "meets", "order", "falls", "moved", "soonest", "way", "rows", "most", "holding", "felling", "stands",
        "seen", "seenDry", "surely", "chalks", "attempt", "forces", "best", "chance", "mean", "fallen", "judge", "perform", "year",
        "lists", "age", "soonest of all",
    };
    private static final Due.Call[] ASKED = {
        x -> x.grown(0, 1, 0), x -> x.lies(0, 2), x -> x.meets(0), x -> x.order(0), x -> x.falls(), x -> x.moved(0, 0, 1),
        x -> x.soonest(1), x -> x.way(1, 0), x -> x.rows(1, 3), x -> x.most(), x -> x.holding(), x -> x.felling(), x -> x.stands(),
        x -> x.seen(1, 0), x -> x.seenDry(1, 0, 0), x -> x.surely(1, 0, 0), x -> x.chalks(1, 0), x -> x.attempt(1, 0),
        x -> x.forces(0), x -> x.best(0), x -> x.chance(0, 3, 1), x -> x.mean(0, 3, 0), x -> x.fallen(3, 0), x -> x.judge(0, 3),
        x -> x.perform(0) * 100 + x.count(3) + 10 * x.count(5), x -> x.year(0) * 100 + x.count(3) + 10 * x.count(5),
        x -> x.lists(1, 0) * 1000 + x.seen(1, 0), x -> x.age(7, 9) * 100 + x.count(3) + 10 * x.count(5), x -> x.soonest(3),
    };
    /** All of them with two pairs of the same gaps, so that what was kept of one would fit another. */
    private static final String[] CAVES = {
        "cave drops 2;pair gap 6;pair gap 4;",
        "cave drops 2;pair gap 6;pair gap 4;falls:gaps=8;",
        "cave drops 2;pair gap 6;pair gap 4;falls:gaps=6;",
        "cave drops 2;pair gap 6 chalk 0;pair gap 4 chalk 0;grows:chalk+1;falls:gaps=6;",
        "cave drops 2;pair gap 6;pair gap 4;grows:3*chalk-dry;falls:gaps=3;",
        "cave drops 2;pair gap 6;pair gap 4;dry 5;grows:drops-dry;",
        "cave drops 1;pair gap 6 chalk 3;pair gap 4;lead 0 1;dry 2;grows:drops*chalk;falls:met=1;",
        "cave drops 2;pair gap 2;pair gap 1;grows:drops+1;falls:dry=1;",
    };
    private static final String[] DEED_NAMES = {
        "year(0)", "year(1)", "lead", "chalk 3", "chalk 0", "saw", "undo", "perform", "restore", "image of another cave",
    };
    private static final Due.Call[] DEEDS = {
        x -> x.year(0), x -> x.year(1), x -> x.lead(x.count(1) == 2 ? 6 : 1), x -> x.chalk(0, 3), x -> x.chalk(0, 0),
        x -> x.year(0) + x.saw(0), x -> x.year(0) + x.undo(1), x -> x.perform(0), x -> x.year(0) + x.restore(0),
        x -> x.restore(1),
    };

    public static void main(String[] args) {
        for (String cave : CAVES) {
            for (int d = 0; d < DEEDS.length; d++) {
                for (int a = 0; a < ASKED.length; a++) {
                    behindADeed(cave, d, a);
                }
            }
            for (String other : CAVES) {
                for (int a = 0; a < ASKED.length; a++) {
                    behindAText(cave, other, a);
                }
            }
        }
        nothingIsLeft();
        toTheEnd();
        chalkAndBack();
        due.end("AskingTest");
    }

    private static void askAll(StoneMeet x) {
        for (int a = 0; a < ASKED.length; a++) {
            if (!NAMES[a].equals("perform") && !NAMES[a].equals("year") && !NAMES[a].equals("age") && !NAMES[a].equals("lists")) {
                ASKED[a].on(x);
            }
        }
    }

    private static StoneMeet begun(String cave) {
        StoneMeet x = Due.caveOf("cave drops 2;pair gap 6;pair gap 4;grows:2;falls:gaps=2;");
        x.image(1);
        Due.tell(x, cave);
        x.image(0);
        Due.fill(x, 0, 0, 103, 0);
        Due.fill(x, 1, -1, 3, -1);
        return x;
    }

    private static void behindADeed(String cave, int deed, int asked) {
        StoneMeet x = begun(cave);
        StoneMeet y = begun(cave);
        askAll(x);
        due.is(DEED_NAMES[deed] + " of " + cave, DEEDS[deed].on(x), DEEDS[deed].on(y));
        due.is(NAMES[asked] + " first behind " + DEED_NAMES[deed] + " of " + cave, ASKED[asked].on(x), ASKED[asked].on(y));
    }

    private static void behindAText(String cave, String other, int asked) {
        StoneMeet x = begun(cave);
        StoneMeet y = begun(other);
        askAll(x);
        Due.tell(x, other);
        due.is(NAMES[asked] + " first behind " + other + " behind " + cave, ASKED[asked].on(x), ASKED[asked].on(y));
    }

    /** What one text told, whole or up to its fault, is not in what the next one leaves untold. */
    private static void nothingIsLeft() {
        String much = "cave drops 4;pair gap 9 chalk 7;pair gap 8 chalk 6;pair gap 7;lead 1 2 1;dry 7;grows:0-9;falls:1=1;";
        for (String text : new String[] {much, much + "#", much + "dry 11;", much + "pair"}) {
            StoneMeet x = new StoneMeet();
            Due.tell(x, text);
            due.is("behind " + text, Due.tell(x, "cave drops 1;pair gap 2;pair gap 3;"), 3);
            int[] told = {2, 1, 0, 5, 1, 0, 0, 0, 0, 3};
            for (int what = 0; what < told.length; what++) {
                due.is("count " + what + " behind " + text, x.count(what), told[what]);
            }
            due.is("chalk behind " + text, x.pair(0, 1) * 10 + x.pair(1, 1), 11);
            due.is("growth behind " + text, x.grown(0, 3, 0), 3);
            due.is("never dry behind " + text, x.mean(0, 1, 0) * 10 + x.mean(0, 1, 1), 11);
            due.is("never falls behind " + text, x.falls(), -1);
            due.is("leadings behind " + text, x.leadings(), 2);
        }
    }

    /** What was found from one state is not told from the next, down to where all have met. */
    private static void toTheEnd() {
        StoneMeet x = Due.caveOf("cave drops 1;pair gap 3;pair gap 0;falls:dry=1;");
        for (int left = 3; left >= 0; left--) {
            due.is("soonest", x.soonest(1), left);
            due.is("way", x.way(1, 0), left == 0 ? -1 : 1);
            due.is("stands", x.stands(), left + 1);
            due.is("soonest", x.soonest(3), left);
            if (left > 0) {
                x.year(0);
            }
        }
        x.year(1);
        due.is("all have met, then it fell", x.count(5), 1);
        due.is("soonest", x.soonest(3), 0);
        due.is("stands", x.stands(), 1);
        due.is("most", x.most(), 2);
        due.is("rows", x.rows(3, 8), 256);
    }
    /** By chalk 0, by more of it, by 0 again. */
    private static void chalkAndBack() {
        StoneMeet x = Due.caveOf("cave drops 1;pair gap 6 chalk 0;grows:chalk+1;falls:gaps=3;");
        int[] chalks = {0, 2, 0, 5, 0, 1, 0};
        int[] soonest = {-1, -1, -1, 1, -1, 3, -1};
        int[] stands = {4, 2, 4, 2, 4, 4, 4};
        int[] falls = {3, 1, 3, -1, 3, -1, 3};
        for (int i = 0; i < chalks.length; i++) {
            x.chalk(0, chalks[i]);
            due.is("soonest by chalk " + chalks[i], x.soonest(1), soonest[i]);
            due.is("stands by chalk " + chalks[i], x.stands(), stands[i]);
            due.is("falls by chalk " + chalks[i], x.falls(), falls[i]);
            due.is("soonest by chalk " + chalks[i], x.soonest(1), soonest[i]);
        }
    }
}
