/** Promises 38 to 43 at their edges: trays empty and full, numbers cut to their sort, images, counts. */
public final class TrayEdgesTest {
    private static final Due due = new Due();
    private static final int LEAST = Integer.MIN_VALUE;
    private static final int GREATEST = Integer.MAX_VALUE;
    private static final String TWO = "cave drops 1;pair gap 9;pair gap 7;";

    public static void main(String[] args) {
        numbersCodes();
        numbersStay();
        sizes();
        writeCodes();
        cut();
        cutDeeds();
        trayByTray();
        listsCodes();
        lists();
        imageCodes();
        images();
        imagesHoldAll();
        imagesHoldNoMore();
        counts();
        due.end("TrayEdgesTest");
    }

    private static void is(int promise, String call, long got, long want) {
        due.is("promise " + promise + ": " + call, got, want);
    }

    // ---- 38

    private static void numbersCodes() {
        StoneMeet x = new StoneMeet();
        for (int tray : Due.outside(0, 3)) {
            is(38, "tray " + tray, x.numbers(tray, 0, 0), -2);
            is(38, "the tray ahead of n", x.numbers(tray, 0, 41), -2);
            is(38, "the tray and the sort", x.numbers(tray, 4, -1), -2);
        }
        for (int sort : Due.outside(0, 3)) {
            is(38, "sort " + sort, x.numbers(0, sort, 0), -2);
            is(38, "the sort ahead of n", x.numbers(3, sort, 41), -2);
        }
        for (int n : Due.outside(0, 40)) {
            for (int sort = 0; sort < 4; sort++) {
                is(38, n + " numbers", x.numbers(sort, sort, n), -3);
            }
        }
        for (int tray = 0; tray < 4; tray++) {
            is(38, "still missing", x.perform(tray), -6);
        }
        for (int tray = 0; tray < 4; tray++) {
            for (int sort = 0; sort < 4; sort++) {
                is(38, "none", x.numbers(tray, sort, 0), 0);
                is(38, "none of them", x.write(tray, 0, 1), -7);
                is(38, "forty", x.numbers(tray, sort, 40), 0);
                is(38, "the first", x.write(tray, 0, 1), 1);
                is(38, "the fortieth", x.write(tray, 39, 1), 1);
                is(38, "no more", x.write(tray, 40, 1), -7);
            }
        }
    }

    /** Behind -2 and -3 the tray has its numbers and its sort. */
    private static void numbersStay() {
        StoneMeet x = Due.caveOf(TWO);
        for (int tray = 0; tray < 4; tray++) {
            x.numbers(tray, 1, 3);
            x.write(tray, 0, 1);
            x.write(tray, 1, 10);
            x.write(tray, 2, 118);
            for (int n : Due.outside(0, 40)) {
                is(38, n + " numbers", x.numbers(tray, 0, n), -3);
            }
            is(38, "no such sort", x.numbers(tray, 4, 2), -2);
            is(38, "its numbers", x.perform(tray), 3);
            is(38, "the last of them", x.pair(1, 1), 8);
            is(38, "no more of them", x.write(tray, 3, 0), -7);
            is(38, "its sort", x.write(tray, 0, 0x12345), 0x2345);
            x.undo(1);
        }
    }

    /** As many as were told, all 0, in place of those there were. */
    private static void sizes() {
        StoneMeet x = null;
        for (int n = 0; n <= 40; n++) {
            if (n % 4 == 0) {
                x = Due.caveOf("cave drops 0;pair gap 1;");
                x.numbers(0, 3, 40);
                for (int i = 0; i < 40; i++) {
                    x.write(0, i, 1000 + i);
                }
            }
            is(38, n + " numbers", x.numbers(0, n % 4, n), 0);
            is(38, "the last of " + n, x.write(0, n - 1, 77), n == 0 ? -7 : 77);
            is(38, "no more than " + n, x.write(0, n, 77), -7);
            is(38, n + " anew", x.numbers(0, n % 4, n), 0);
            is(38, "all 0: as many years", x.perform(0), n);
            if (n > 0) {
                x.undo(1);
                x.write(0, n - 1, 9);
                is(38, "all of them", x.judge(0, 0), n - 1);
                is(38, "fewer", x.numbers(0, 3, n - 1), 0);
                is(38, "the last is gone", x.judge(0, 0), -1);
                is(38, "and doesn't come back", x.numbers(0, 3, n), 0);
                is(38, "and doesn't come back", x.judge(0, 0), -1);
            }
        }
    }

    // ---- 39

    private static void writeCodes() {
        StoneMeet x = new StoneMeet();
        for (int tray : Due.outside(0, 3)) {
            is(39, "tray " + tray, x.write(tray, 0, 1), -2);
            is(39, "tray " + tray, x.write(tray, -1, 1), -2);
        }
        for (int tray = 0; tray < 4; tray++) {
            is(39, "missing", x.write(tray, 0, 1), -6);
            is(39, "missing, ahead of no such number", x.write(tray, -1, 1), -6);
            is(39, "missing, ahead of no such number", x.write(tray, 40, 1), -6);
            x.numbers(tray, tray, 0);
            for (int i : new int[] {LEAST, -1, 0, 1, 39, 40, GREATEST}) {
                is(39, "no numbers", x.write(tray, i, 1), -7);
            }
            x.numbers(tray, tray, 5);
            for (int i : Due.outside(0, 4)) {
                is(39, "number " + i + " of 5", x.write(tray, i, 1), -7);
            }
            for (int i = 0; i < 5; i++) {
                is(39, "number " + i + " of 5", x.write(tray, i, -2 - i), -2 - i);
            }
            x.numbers(tray, tray, 40);
            for (int i : Due.outside(0, 39)) {
                is(39, "number " + i + " of 40", x.write(tray, i, 1), -7);
            }
        }
    }

    /** 2 to the so manieth, 2 to the so manieth less 1, and so on, by long numbers that don't wrap. */
    private static void cut() {
        for (int sort = 0; sort < 3; sort++) {
            StoneMeet x = new StoneMeet();
            x.numbers(sort, sort, 1);
            long all = 1L << (8 << sort);
            long half = all / 2;
            long[][] pairs = {
                {0, 0}, {1, 1}, {-1, -1}, {half - 1, half - 1}, {half, -half}, {half + 1, 1 - half}, {all - 1, -1}, {all, 0},
                {all + 1, 1}, {all + half - 1, half - 1}, {all + half, -half}, {-half, -half}, {-half - 1, half - 1},
                {-all, 0}, {-all - 1, -1}, {-all + 1, 1}, {Long.MAX_VALUE, -1}, {Long.MIN_VALUE, 0}, {Long.MIN_VALUE + 5, 5},
                {Long.MAX_VALUE - 5, -6}, {3 * all + 7, 7}, {-3 * all - 7, -7},
            };
            for (long[] pair : pairs) {
                is(39, pair[0] + " of sort " + sort, x.write(sort, 0, pair[0]), pair[1]);
            }
        }
        StoneMeet x = new StoneMeet();
        x.numbers(3, 3, 1);
        for (long v : new long[] {0, 1, -1, 127, 128, 255, 256, 32767, 32768, 65536, GREATEST, LEAST, 1L << 31, 1L << 32, -(1L << 32),
            Long.MAX_VALUE, Long.MAX_VALUE - 1, Long.MIN_VALUE, Long.MIN_VALUE + 1}) {
            is(39, v + " of sort 3", x.write(3, 0, v), v);
        }
    }

    /** What a deed is, is told by the number as it is there. */
    private static void cutDeeds() {
        StoneMeet x = Due.caveOf(TWO);
        int[] bits = {8, 16, 32};
        for (int sort = 0; sort < 3; sort++) {
            x.numbers(0, sort, 2);
            x.write(0, 0, (1L << bits[sort]) + 1);
            x.write(0, 1, 11 - (1L << bits[sort]));
            is(39, "a dry year, pair 1 sawn off", x.judge(0, 0), -1);
            x.write(0, 1, (1L << bits[sort]) - 1);
            is(39, "-1 is no deed", x.judge(0, 0), 1);
        }
        x.numbers(0, 0, 1);
        x.write(0, 0, 1005);
        is(39, "1005 of 8 bits is -19", x.judge(0, 1), 1);
        x.write(0, 0, 127);
        is(39, "127 is chalk of pair 2", x.judge(0, 1), 1);
        x.write(0, 0, 119);
        is(39, "119 is chalk of pair 1", x.judge(0, 1), 0);
        x.write(0, 0, 128);
        is(39, "128 is -128", x.judge(0, 1), 1);
        x.numbers(0, 1, 1);
        x.write(0, 0, 1005);
        is(39, "1005 of 16 bits is to lead", x.judge(0, 1), 0);
        x.write(0, 0, 65536 + 1005);
        is(39, "the same", x.judge(0, 1), 0);
        x.numbers(0, 3, 1);
        x.write(0, 0, (1L << 32) + 1005);
        is(39, "of 64 bits it isn't", x.judge(0, 1), 1);
    }

    /** Each tray and each number by itself. */
    private static void trayByTray() {
        StoneMeet x = Due.caveOf(TWO);
        for (int tray = 0; tray < 4; tray++) {
            x.numbers(tray, tray, 2 + tray);
            x.write(tray, 1 + tray, 9);
        }
        for (int tray = 0; tray < 4; tray++) {
            is(39, "tray " + tray, x.judge(tray, 0), 1 + tray);
            is(14, "tray " + tray, x.perform(tray), 1 + tray);
        }
        x.numbers(1, 0, 0);
        is(38, "another is empty", x.judge(0, 0), 1);
        is(38, "another is empty", x.judge(2, 0), 3);
    }

    // ---- 40

    private static void listsCodes() {
        StoneMeet x = Due.caveOf(TWO);
        for (int tray : Due.outside(0, 3)) {
            is(40, "tray " + tray, x.lists(tray, 0), -2);
            is(40, "tray and pair", x.lists(tray, -1), -2);
        }
        for (int p : Due.outside(0, 1)) {
            is(40, "the pair ahead of missing", x.lists(0, p), -2);
        }
        for (int tray = 0; tray < 4; tray++) {
            is(40, "missing", x.lists(tray, 1), -6);
            x.numbers(tray, tray, 4);
            x.write(tray, 2, 7);
            for (int p : Due.outside(0, 1)) {
                is(40, "pair " + p, x.lists(tray, p), -2);
            }
            is(40, "the tray stays", x.judge(tray, 0), 2);
        }
    }

    private static void lists() {
        for (int sort = 0; sort < 4; sort++) {
            StoneMeet x = Due.caveOf(TWO);
            x.numbers(0, sort, 0);
            is(40, "no places", x.lists(0, 0), 0);
            for (int n = 1; n <= 10; n++) {
                x.numbers(0, sort, n);
                is(40, n + " places", x.lists(0, 0), n);
                is(40, "8, 7, 6 ..", x.seen(0, 0), n == 10 ? 2 : 1);
                is(40, "as it is there", x.surely(0, 0, 0), n == 10 ? 511 : (1 << n) - 1);
                is(40, "of the other one", x.lists(0, 1), n);
                is(40, "7, 7, 7 ..", x.seen(0, 1), 1 << n);
            }
            x.numbers(0, sort, 40);
            is(40, "forty", x.lists(0, 0), 40);
            // 8, 7, .. 1, then 0 to the end: the first is no deed.
            is(40, "the first is 8", x.judge(0, 0), 0);
            for (int i = 0; i < 7; i++) {
                x.write(0, i, 0);
            }
            is(40, "the eighth is 1, all others 0: forty years", x.judge(0, 0), -1);
            is(40, "39 of them wet", x.judge(0, 3), 7);
            is(40, "nothing is done", x.count(6) + x.count(7), 0);
        }
        StoneMeet x = Due.caveOf("cave drops 1;pair gap 9;falls:gaps=6;");
        x.numbers(0, 0, 10);
        x.lists(0, 0);
        is(40, "the roof has fallen behind three years", x.seen(0, 0), 1 << 7);
        x.year(0);
        x.year(0);
        x.year(0);
        x.lists(0, 0);
        is(40, "it has fallen", x.seen(0, 0), 1 << 10);
    }

    // ---- 41, 42

    private static void imageCodes() {
        StoneMeet x = Due.caveOf(TWO);
        for (int i : Due.outside(0, 1)) {
            is(41, "image(" + i + ")", x.image(i), -2);
            is(42, "restore(" + i + ")", x.restore(i), -2);
        }
        is(42, "none was made", x.restore(0), -5);
        is(42, "none was made", x.restore(1), -5);
        is(41, "the last", x.image(1), 0);
        is(42, "the first still wasn't made", x.restore(0), -5);
        is(42, "the last", x.restore(1), 0);
        is(41, "the first", x.image(0), 0);
        is(42, "the first", x.restore(0), 0);
        for (int i : Due.outside(0, 1)) {
            is(42, "restore(" + i + ")", x.restore(i), -2);
        }
    }

    private static void images() {
        StoneMeet x = new StoneMeet();
        is(41, "of no cave", x.image(0), 0);
        Due.tell(x, TWO);
        x.year(0);
        is(41, "of a cave", x.image(1), 0);
        is(41, "what can be undone stays", x.count(7), 1);
        x.year(0);
        is(42, "the cave", x.restore(1), 0);
        is(42, "gap", x.pair(0, 0), 8);
        is(42, "nothing can be undone", x.undo(1), -3);
        x.year(0);
        is(42, "what is done behind can be", x.undo(1), 0);
        is(42, "gap", x.pair(0, 0), 8);
        is(42, "no cave", x.restore(0), 0);
        for (int what = 0; what < 10; what++) {
            is(42, "count " + what + " of no cave", x.count(what), 0);
        }
        is(42, "leadings()", x.leadings(), 1);
        is(42, "again and again", x.restore(1), 0);
        is(42, "again and again", x.restore(1), 0);
        is(42, "gap", x.pair(0, 0), 8);
        is(41, "in place of another one", x.image(0), 0);
        is(42, "in place of another one", x.restore(0), 0);
        is(42, "gap", x.pair(0, 0), 8);
    }

    /** The cave with its laws, and all that undoing brings back. */
    private static void imagesHoldAll() {
        StoneMeet x = Due.caveOf("cave drops 2;pair gap 9;pair gap 8 chalk 3;lead 1 1;dry 5;grows:drops*chalk-dry*6;falls:gaps<10;");
        x.chalk(0, 2);
        x.lead(10);
        x.year(0);
        x.image(0);
        int[] holds = new int[20];
        for (int what = 0; what < 10; what++) {
            holds[what] = x.count(what);
        }
        x.lead(2);
        x.chalk(0, 9);
        x.chalk(1, 9);
        x.year(0);
        x.year(1);
        is(42, "fallen", x.count(5), 1);
        x.image(1);
        Due.tell(x, "cave drops 4;pair gap 1;pair gap 1;pair gap 1;pair gap 1;grows:9;");
        x.year(0);
        is(42, "restore(0)", x.restore(0), 0);
        for (int what = 0; what < 10; what++) {
            is(42, "count " + what, x.count(what), what == 7 ? 0 : holds[what]);
        }
        is(42, "chalk", x.pair(0, 1), 2);
        is(42, "chalk", x.pair(1, 1), 3);
        is(42, "the gap told", x.pair(0, 3), 9);
        is(42, "the law grows", x.grown(1, 2, 0), 6);
        is(42, "the law grows", x.grown(1, 1, 1), -3);
        is(42, "the law falls", x.falls(), 1);
        is(42, "dry", x.chance(1, 1, 1), 2);
        is(42, "leadings", x.leadings(), 3);
        is(42, "restore(1)", x.restore(1), 0);
        is(42, "fallen", x.count(5), 1);
        is(42, "chalk", x.pair(1, 1), 9);
        is(42, "saw", x.saw(0), -12);
        is(42, "years", x.count(6), 3);
    }

    /** Trays, the tape and what was read stay as they are. */
    private static void imagesHoldNoMore() {
        StoneMeet x = Due.caveOf(TWO);
        x.image(0);
        Due.fill(x, 2, 0, 0, 9);
        Due.tape(x, "cave drops 3;");
        is(42, "restore", x.restore(0), 0);
        is(42, "the tape", x.count(8), 20);
        is(42, "the tray", x.judge(2, 0), 2);
        is(42, "another tray", x.judge(1, 0), -6);
        is(3, "the tape", x.cave(13), 1);
        is(3, "drops", x.count(1), 3);
        is(42, "an image outlives the cave", x.restore(0), 0);
        is(42, "pairs", x.count(0), 2);
        is(42, "a cave that wasn't read", Due.tell(x, "cave drops 7;"), -33);
        x.restore(0);
        is(42, "the fault of the latest text", x.fault(0), 3);
    }

    // ---- 43

    private static void counts() {
        StoneMeet x = Due.caveOf("cave drops 4;pair gap 9;pair gap 9;pair gap 9;pair gap 9;lead 0 0 0 4;grows:9;falls:gaps=0;");
        int[] told = {4, 4, 0, 36, 500, 0, 0, 0, 0, 8};
        int[] met = {4, 4, 15, 0, 500, 1, 1, 1, 0, 8};
        for (int round = 0; round < 2; round++) {
            for (int what = 0; what < 10; what++) {
                is(43, "count " + what, x.count(what), (round == 0 ? told : met)[what]);
            }
            for (int what : Due.outside(0, 9)) {
                is(43, "count(" + what + ")", x.count(what), -1);
            }
            x.year(0);
        }
        for (int i = 0; i < 45; i++) {
            x.feed(0, 0, 0, 0, 0);
        }
        is(43, "a full tape", x.count(8), 900);
        for (int i = 0; i < 200; i++) {
            x.year(i % 2);
        }
        is(43, "years", x.count(6), 202);
        is(43, "undoable", x.count(7), 10);
        for (int p = 0; p < 4; p++) {
            String text = "cave drops 0;" + "pair gap 1;".repeat(p) + "pair gap 0;" + "pair gap 1;".repeat(3 - p);
            is(43, "who has met", Due.caveOf(text).count(2), 1 << p);
        }
    }
}
