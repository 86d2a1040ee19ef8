import java.util.Random;

/**
 * Runs of calls drawn by seeds, on the program and on the oracle: each answer must be the same.
 * Arguments: the first seed and how many runs (as .ci/run calls it, a small number of them).
 */
public final class OracleTest {
    private static final int CALLS = 512;

    private final Random random;
    private final Due due;
    private final long seed;
    private final StringBuilder told = new StringBuilder();
    private StoneMeet x = new StoneMeet();
    private Oracle o = new Oracle();
    private int made = 0;

    private OracleTest(long seed, Due due) {
        this.seed = seed;
        this.due = due;
        random = new Random(seed);
    }

    public static void main(String[] args) {
        long first = args.length > 0 ? Long.parseLong(args[0]) : 1;
        int runs = args.length > 1 ? Integer.parseInt(args[1]) : 400;
        Due due = new Due();
        for (long seed = first; seed < first + runs; seed++) {
            new OracleTest(seed, due).run();
        }
        due.end("OracleTest");
    }

    private void run() {
        int pairs = random.nextInt(5);
        if (random.nextInt(30) == 0) {
            call(0);
        }
        while (made < CALLS - 60) {
            int kind = random.nextInt(100);
            if (kind < 4 || (made == 0 && kind < 95)) {
                tellCave(new CaveText(random, random.nextInt(4) == 0 ? random.nextInt(5) : pairs).whole());
            } else if (kind < 7) {
                tellCave(new CaveText(random, random.nextInt(5)).spoilt());
            } else {
                call(1 + random.nextInt(43));
            }
        }
    }

    private void tellCave(String text) {
        for (int i = 0; i < text.length(); i += 20) {
            int[] f = new int[5];
            for (int k = 0; k < 5; k++) {
                f[k] = Due.four(text, i + 4 * k);
            }
            same("feed", x.feed(f[0], f[1], f[2], f[3], f[4]), o.feed(f[0], f[1], f[2], f[3], f[4]));
        }
        told.setLength(0);
        told.append(text);
        int n = Math.min(text.length(), o.count(8));
        same("cave", x.cave(n), o.cave(n));
        same("fault 0", x.fault(0), o.fault(0));
        same("fault 1", x.fault(1), o.fault(1));
        for (int what = 0; what < 10; what++) {
            same("count " + what, x.count(what), o.count(what));
        }
    }

    private void same(String call, long got, long want) {
        made++;
        due.is("seed " + seed + " call " + made + " " + call + " [" + told + "]", got, want);
    }

    /** A number that mostly is from 0 to most - 1, sometimes just outside, seldom far off. */
    private int near(int most) {
        int kind = random.nextInt(40);
        if (kind == 0) {
            return new int[] {Integer.MIN_VALUE, Integer.MAX_VALUE, -1, most, most + 1, -2, 1000000}[random.nextInt(7)];
        }
        return random.nextInt(most + (kind < 4 ? 1 : 0));
    }

    private int p() {
        return near(Math.max(1, o.count(0)));
    }

    private int set() {
        return near(1 << o.count(0));
    }

    private int leadNumber() {
        int n = random.nextInt(625);
        for (int i = 0; i < 625; i++) {
            n = (n + 1) % 625;
            int sum = n % 5 + n / 5 % 5 + n / 25 % 5 + n / 125;
            boolean fits = o.count(0) == 4 || n < Math.pow(5, o.count(0));
            if (sum == o.count(1) && fits) {
                return n;
            }
        }
        return 0;
    }

    private long deed() {
        switch (random.nextInt(12)) {
            case 0:
                return 10 + random.nextInt(Math.max(1, o.count(0)) + (random.nextInt(8) == 0 ? 3 : 0));
            case 1:
                return 100 + random.nextInt(10 * Math.max(1, o.count(0)) + (random.nextInt(8) == 0 ? 20 : 0));
            case 2:
            case 3:
                return 1000 + (random.nextInt(8) == 0 ? random.nextInt(1000) : leadNumber());
            case 4:
                long[] odd = {2, 9, 20, 99, 200, 999, 2000, -1, Long.MIN_VALUE, Long.MAX_VALUE, 1L << 32, 1};
                return random.nextInt(4) == 0 ? odd[random.nextInt(odd.length)] : 0;
            default:
                return random.nextInt(2);
        }
    }

    private void call(int which) {
        int a = p();
        int b = near(4);
        int c = near(3);
        switch (which) {
            case 0 -> {
                for (int i = 0; i < 46; i++) {
                    same("feed", x.feed(i, 0, 0, 0, 0), o.feed(i, 0, 0, 0, 0));
                }
                same("cave", x.cave(-1), o.cave(-1));
                same("cave", x.cave(901), o.cave(901));
                same("count 8", x.count(8), o.count(8));
                same("cave", x.cave(0), o.cave(0));
            }
            case 1, 2, 3 -> moveOrTray(which);
            case 4 -> same("fault", x.fault(c), o.fault(c));
            case 5 -> same("pair " + a + " " + b, x.pair(a, b), o.pair(a, b));
            case 6 -> {
                int drops = near(5);
                int dry = near(2);
                same("grown " + a + " " + drops + " " + dry, x.grown(a, drops, dry), o.grown(a, drops, dry));
            }
            case 7 -> same("leadings", x.leadings(), o.leadings());
            case 8 -> {
                int dry = near(2);
                same("year " + dry, x.year(dry), o.year(dry));
            }
            case 9 -> {
                int n = random.nextInt(5) == 0 ? near(625) : leadNumber();
                same("lead " + n, x.lead(n), o.lead(n));
            }
            case 10 -> same("saw " + a, x.saw(a), o.saw(a));
            case 11 -> {
                int n = near(10);
                same("chalk " + a + " " + n, x.chalk(a, n), o.chalk(a, n));
            }
            case 12 -> {
                int n = 1 + near(3);
                same("undo " + n, x.undo(n), o.undo(n));
            }
            case 13 -> {
                int tray = fillTray(0);
                for (int what = 0; what < 4; what++) {
                    same("judge " + tray + " " + what, x.judge(tray, what), o.judge(tray, what));
                }
                same("judge " + b + " " + c, x.judge(b, c + 2), o.judge(b, c + 2));
            }
            case 14 -> {
                int tray = random.nextBoolean() ? fillTray(0) : b;
                same("perform " + tray, x.perform(tray), o.perform(tray));
            }
            case 15 -> {
                int seed = random.nextInt();
                int times = 1 + near(40);
                same("age " + seed + " " + times, x.age(seed, times), o.age(seed, times));
            }
            case 16 -> {
                int n = random.nextInt(3) == 0 ? near(100000) : near(30);
                same("lies " + a + " " + n, x.lies(a, n), o.lies(a, n));
            }
            case 17 -> same("meets " + a, x.meets(a), o.meets(a));
            case 18 -> same("order " + b, x.order(b), o.order(b));
            case 19 -> same("falls", x.falls(), o.falls());
            case 20 -> {
                int to = p();
                int from = p();
                same("moved " + a + " " + from + " " + to, x.moved(a, from, to), o.moved(a, from, to));
            }
            default -> search(which, a, b);
        }
    }

    private void search(int which, int a, int b) {
        int set = set();
        switch (which) {
            case 21 -> same("soonest " + set, x.soonest(set), o.soonest(set));
            case 22 -> {
                int n = x.soonest(set);
                for (int i = -1; i <= n && i < 12; i++) {
                    same("way " + set + " " + i, x.way(set, i), o.way(set, i));
                }
            }
            case 23 -> {
                int n = near(9);
                same("rows " + set + " " + n, x.rows(set, n), o.rows(set, n));
            }
            case 24 -> same("most", x.most(), o.most());
            case 25 -> same("holding", x.holding(), o.holding());
            case 26 -> same("felling", x.felling(), o.felling());
            case 27 -> same("stands", x.stands(), o.stands());
            case 28, 29, 30, 31, 32 -> sight(a, b);
            case 33 -> same("forces " + a, x.forces(a), o.forces(a));
            case 34 -> same("best " + a, x.best(a), o.best(a));
            case 35, 36, 37 -> odds(a);
            default -> moveOrTray(which);
        }
    }

    private void sight(int a, int b) {
        int tray = random.nextInt(5) == 0 ? b : fillTray(1 + random.nextInt(2));
        int i = near(10);
        int what = near(2);
        same("seen " + tray + " " + a, x.seen(tray, a), o.seen(tray, a));
        same("seenDry " + tray + " " + a + " " + i, x.seenDry(tray, a, i), o.seenDry(tray, a, i));
        same("surely " + tray + " " + a + " " + what, x.surely(tray, a, what), o.surely(tray, a, what));
        same("chalks " + tray + " " + a, x.chalks(tray, a), o.chalks(tray, a));
        same("attempt " + tray + " " + a, x.attempt(tray, a), o.attempt(tray, a));
    }

    private void odds(int a) {
        int n = near(9);
        int what = near(2);
        same("chance " + a + " " + n, x.chance(a, n, what), o.chance(a, n, what));
        same("mean " + a + " " + n, x.mean(a, n, what), o.mean(a, n, what));
        same("fallen " + n, x.fallen(n, what), o.fallen(n, what));
    }

    private void moveOrTray(int which) {
        int tray = near(4);
        int i = near(2);
        switch (which) {
            case 38 -> {
                int sort = near(4);
                int n = near(41);
                same("numbers " + tray + " " + sort + " " + n, x.numbers(tray, sort, n), o.numbers(tray, sort, n));
            }
            case 39 -> {
                int place = near(6);
                long v = random.nextBoolean() ? random.nextLong() : near(10);
                same("write " + tray + " " + place + " " + v, x.write(tray, place, v), o.write(tray, place, v));
            }
            case 40 -> {
                int a = p();
                same("lists " + tray + " " + a, x.lists(tray, a), o.lists(tray, a));
                same("seen " + tray + " " + a, x.seen(tray, a), o.seen(tray, a));
            }
            case 41 -> same("image " + i, x.image(i), o.image(i));
            case 42 -> same("restore " + i, x.restore(i), o.restore(i));
            case 43 -> {
                for (int what = -1; what < 11; what++) {
                    same("count " + what, x.count(what), o.count(what));
                }
            }
            default -> {
                int dry = near(2);
                same("year " + dry, x.year(dry), o.year(dry));
            }
        }
    }

    /** Fills a tray with deeds (0), with gaps that were seen (1) or that might have been (2). */
    private int fillTray(int kind) {
        int tray = random.nextInt(4);
        int sort = random.nextInt(4);
        int n = kind == 0 ? random.nextInt(12) : 1 + random.nextInt(5);
        n = random.nextInt(20) == 0 ? random.nextInt(41) : n;
        same("numbers", x.numbers(tray, sort, n), o.numbers(tray, sort, n));
        if (kind == 1) {
            int a = random.nextInt(Math.max(1, o.count(0)));
            same("lists", x.lists(tray, a), o.lists(tray, a));
        }
        for (int i = 0; i < n; i++) {
            long v = kind == 0 ? deed() : near(10);
            if (kind == 1) {
                v = -1;
            }
            if (kind != 1 || random.nextInt(3) == 0) {
                same("write", x.write(tray, i, v), o.write(tray, i, v));
            }
        }
        return tray;
    }
}
