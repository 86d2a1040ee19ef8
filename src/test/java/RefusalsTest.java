import java.util.ArrayList;
import java.util.List;

/**
 * Behind each refused call, and behind each that only asks, nothing is other than before: of two
 * objects that were used alike one is called, and then both look the same.
 */
public final class RefusalsTest {
    private record Row(String call, long code, Due.Call on) { }

    /** How an object is used ahead of the call. */
    private interface Use {
        void of(StoneMeet x);
    }

    private static final Due due = new Due();
    private static final String CAVE = "cave drops 2;pair gap 6;pair gap 5 chalk 2;pair gap 0;lead 2 0 0;dry 4;"
            + "grows:if dry=1 then 0-1 else drops*chalk end;falls:gaps<4;";
    private static final int[] PAIRS = Due.outside(0, 2);
    private static final int[] TRAYS = Due.outside(0, 3);

    private static final List<Row> ROWS = new ArrayList<>();

    public static void main(String[] args) {
        looksTellApart();
        tellCave();
        tellDeeds();
        tellCourse();
        tellSights();
        tellTrays();
        behind("as told", RefusalsTest::asTold);
        behind("used", RefusalsTest::used);
        behind("full", RefusalsTest::full);
        tellFallen();
        behind("fallen", RefusalsTest::fallen);
        ROWS.clear();
        tellOfNothing();
        behind("new", x -> { });
        ROWS.clear();
        tellFull();
        behind("full", RefusalsTest::full);
        ROWS.clear();
        tellAsking();
        behind("as told", RefusalsTest::asTold);
        behind("used", RefusalsTest::used);
        behind("fallen", RefusalsTest::fallen);
        faults();
        due.end("RefusalsTest");
    }

    private static void row(String call, long code, Due.Call on) {
        ROWS.add(new Row(call, code, on));
    }

    /** Rows without a code (as 0) ask: their answer is looked at elsewhere. */
    private static void asks(String call, Due.Call on) {
        ROWS.add(new Row(call, 0, on));
    }

    private static void behind(String how, Use use) {
        StoneMeet still = new StoneMeet();
        use.of(still);
        List<String> want = Look.at(still);
        for (Row row : ROWS) {
            StoneMeet x = new StoneMeet();
            use.of(x);
            long answer = row.on().on(x);
            if (row.code() != 0) {
                due.is(how + ": " + row.call(), answer, row.code());
                due.is(how + ": " + row.call() + " again", row.on().on(x), row.code());
            }
            String other = Look.difference(Look.at(x), want);
            due.is(how + ": behind " + row.call() + " " + other, other.isEmpty() ? 0 : 1, 0);
        }
    }

    /** A look has to tell objects apart that differ in one thing, or it would show nothing. */
    private static void looksTellApart() {
        Due.Call[] deeds = {x -> x.year(0), x -> x.lead(6), x -> x.chalk(0, 3), x -> x.saw(0), x -> x.feed(0, 0, 0, 0, 0), x -> x.undo(1),
            x -> x.write(0, 3, 0), x -> x.write(1, 2, 1), x -> x.numbers(2, 1, 1), x -> x.numbers(2, 2, 0), x -> x.numbers(3, 0, 0),
            x -> x.image(0), x -> x.image(1), x -> x.restore(0), x -> x.cave(0), x -> x.lists(0, 0), x -> x.age(1, 5)};
        for (int i = 0; i < deeds.length; i++) {
            StoneMeet x = new StoneMeet();
            StoneMeet y = new StoneMeet();
            used(x);
            used(y);
            due.is("looks alike", Look.difference(Look.at(x), Look.at(y)).isEmpty() ? 1 : 0, 1);
            x = new StoneMeet();
            y = new StoneMeet();
            used(x);
            used(y);
            deeds[i].on(x);
            // Tray 2 has no numbers: of which sort these would be can't be seen.
            boolean alike = Look.difference(Look.at(x), Look.at(y)).isEmpty();
            due.is("looks alike behind change " + i, alike ? 1 : 0, i == 9 ? 1 : 0);
        }
    }

    // ---- how objects were used

    private static void asTold(StoneMeet x) {
        Due.tell(x, CAVE);
        x.image(0);
        Due.fill(x, 0, 0, 10, 112, 1010);
        x.numbers(1, 0, 3);
        x.write(1, 0, 4);
        x.write(1, 1, -1);
        x.write(1, 2, 2);
        x.numbers(2, 1, 0);
    }

    private static void used(StoneMeet x) {
        asTold(x);
        x.year(1);
        x.lead(10);
        x.chalk(0, 2);
        x.lead(2);
        Due.tell(x, "cave drops 2;dry 3;dry 11;");
        Due.tape(x, "cave drops 3;pair gap 7;pair gap 6;pair gap 5;lead 0 1 2;");
    }

    private static void full(StoneMeet x) {
        asTold(x);
        for (int i = 0; i < 13; i++) {
            x.chalk(0, i % 3);
            if (i == 6) {
                x.year(0);
            }
        }
        Due.tape(x, "cave drops 1;" + "dry 9;".repeat(147) + "     ");
    }

    private static void fallen(StoneMeet x) {
        asTold(x);
        x.year(0);
        x.lead(10);
        x.year(0);
        x.year(0);
        x.lead(2);
        x.year(0);
        Due.tape(x, "cave drops 1;#");
    }

    // ---- what is refused

    private static void tellCave() {
        for (int n : new int[] {Integer.MIN_VALUE, -1, 901, Integer.MAX_VALUE}) {
            row("cave(" + n + ")", -3, x -> x.cave(n));
        }
        row("cave of more than there is", -3, x -> x.cave(x.count(8) + 1));
        for (int p : PAIRS) {
            row("pair(" + p + ", 0)", -2, x -> x.pair(p, 0));
            row("grown(" + p + ", 0, 0)", -99000002, x -> x.grown(p, 0, 0));
        }
        for (int what : Due.outside(0, 3)) {
            row("pair(0, " + what + ")", -2, x -> x.pair(0, what));
        }
        for (int drops : Due.outside(0, 4)) {
            row("grown(0, " + drops + ", 0)", -99000003, x -> x.grown(0, drops, 0));
        }
        for (int dry : Due.outside(0, 1)) {
            row("grown(0, 0, " + dry + ")", -99000003, x -> x.grown(0, 0, dry));
            row("year(" + dry + ")", -11, x -> x.year(dry));
        }
    }

    private static void tellDeeds() {
        for (int number : new int[] {Integer.MIN_VALUE, -2, -1, 0, 1, 3, 5, 7, 11, 51, 125, 250, 627, 1250, Integer.MAX_VALUE}) {
            row("lead(" + number + ")", -11, x -> x.lead(number));
        }
        for (int p : PAIRS) {
            row("saw(" + p + ")", -11, x -> x.saw(p));
            row("chalk(" + p + ", 0)", -11, x -> x.chalk(p, 0));
        }
        for (int n : Due.outside(0, 9)) {
            row("chalk(0, " + n + ")", -11, x -> x.chalk(0, n));
        }
        for (int n : new int[] {Integer.MIN_VALUE, -1, 0, 11, Integer.MAX_VALUE}) {
            row("undo(" + n + ")", -3, x -> x.undo(n));
        }
        row("undo of more than can be", -3, x -> x.undo(x.count(7) + 1));
        for (int tray : TRAYS) {
            row("judge(" + tray + ", 0)", -2, x -> x.judge(tray, 0));
            row("perform(" + tray + ")", -2, x -> x.perform(tray));
        }
        for (int what : Due.outside(0, 3)) {
            row("judge(0, " + what + ")", -2, x -> x.judge(0, what));
        }
        row("judge(3, 0)", -6, x -> x.judge(3, 0));
        row("perform(3)", -6, x -> x.perform(3));
        for (int times : Due.outside(1, 40)) {
            row("age(5, " + times + ")", -3, x -> x.age(5, times));
        }
        asks("perform(2) of no deeds", x -> x.perform(2));
        asks("perform(1) of none that can be", x -> x.perform(1));
        for (int seed = 0; seed < 60; seed++) {
            int told = seed;
            StoneMeet trial = new StoneMeet();
            asTold(trial);
            if (trial.age(told, 1) == 0) {
                asks("age(" + told + ", 1) of none that could be", x -> x.age(told, 1));
            }
        }
    }

    private static void tellCourse() {
        for (int p : PAIRS) {
            row("lies(" + p + ", 0)", -2, x -> x.lies(p, 0));
            row("meets(" + p + ")", -2, x -> x.meets(p));
            row("moved(" + p + ", 0, 1)", -99000002, x -> x.moved(p, 0, 1));
            row("moved(0, " + p + ", 1)", -99000002, x -> x.moved(0, p, 1));
            row("moved(0, 0, " + p + ")", -99000002, x -> x.moved(0, 0, p));
            row("forces(" + p + ")", -2, x -> x.forces(p));
            row("best(" + p + ")", -2, x -> x.best(p));
            row("chance(" + p + ", 0, 0)", -2, x -> x.chance(p, 0, 0));
            row("mean(" + p + ", 0, 0)", -2, x -> x.mean(p, 0, 0));
        }
        row("moved(0, 0, 0)", -99000002, x -> x.moved(0, 0, 0));
        row("moved(0, 1, 0)", -99000005, x -> x.moved(0, 1, 0));
        for (int n : Due.outside(0, 99999)) {
            row("lies(0, " + n + ")", -3, x -> x.lies(0, n));
        }
        for (int i : new int[] {Integer.MIN_VALUE, -1}) {
            row("order(" + i + ")", -3, x -> x.order(i));
            row("way(1, " + i + ")", -3, x -> x.way(1, i));
        }
        for (int set : Due.outside(0, 7)) {
            row("soonest(" + set + ")", -3, x -> x.soonest(set));
            row("way(" + set + ", 0)", -3, x -> x.way(set, 0));
            row("rows(" + set + ", 0)", -3, x -> x.rows(set, 0));
        }
        for (int n : Due.outside(0, 8)) {
            row("rows(0, " + n + ")", -3, x -> x.rows(0, n));
            row("chance(0, " + n + ", 0)", -3, x -> x.chance(0, n, 0));
            row("mean(0, " + n + ", 0)", -3, x -> x.mean(0, n, 0));
            row("fallen(" + n + ", 0)", -3, x -> x.fallen(n, 0));
        }
        for (int what : Due.outside(0, 1)) {
            row("chance(0, 0, " + what + ")", -2, x -> x.chance(0, 0, what));
            row("mean(0, 0, " + what + ")", -2, x -> x.mean(0, 0, what));
            row("fallen(0, " + what + ")", -2, x -> x.fallen(0, what));
        }
    }

    private static void tellSights() {
        for (int tray : TRAYS) {
            sight(tray, 0, -2);
        }
        for (int p : PAIRS) {
            sight(1, p, -2);
        }
        sight(3, 0, -6);
        sight(2, 0, -4);
        sight(0, 0, -3);
        row("attempt(1, 2)", -5, x -> x.attempt(1, 2));
        for (int i : new int[] {Integer.MIN_VALUE, -1}) {
            row("seenDry(1, 0, " + i + ")", -3, x -> x.seenDry(1, 0, i));
        }
        for (int what : Due.outside(0, 1)) {
            row("surely(1, 0, " + what + ")", -2, x -> x.surely(1, 0, what));
        }
    }

    private static void sight(int tray, int p, int code) {
        String of = "(" + tray + ", " + p + ")";
        row("seen" + of, code, x -> x.seen(tray, p));
        row("seenDry" + of, code, x -> x.seenDry(tray, p, 0));
        row("surely" + of, code, x -> x.surely(tray, p, 1));
        row("chalks" + of, code, x -> x.chalks(tray, p));
        row("attempt" + of, code, x -> x.attempt(tray, p));
    }

    private static void tellTrays() {
        for (int tray : TRAYS) {
            row("numbers(" + tray + ", 0, 1)", -2, x -> x.numbers(tray, 0, 1));
            row("write(" + tray + ", 0, 1)", -2, x -> x.write(tray, 0, 1));
            row("lists(" + tray + ", 0)", -2, x -> x.lists(tray, 0));
            row("numbers(0, " + tray + ", 1)", -2, x -> x.numbers(0, tray, 1));
        }
        for (int n : Due.outside(0, 40)) {
            for (int tray = 0; tray < 4; tray++) {
                int into = tray;
                row("numbers(" + into + ", 1, " + n + ")", -3, x -> x.numbers(into, 1, n));
            }
        }
        for (int i : Due.outside(0, 3)) {
            row("write(0, " + i + ", 1)", -7, x -> x.write(0, i, 1));
        }
        row("write(2, 0, 1)", -7, x -> x.write(2, 0, 1));
        row("write(3, 0, 1)", -6, x -> x.write(3, 0, 1));
        for (int p : PAIRS) {
            row("lists(0, " + p + ")", -2, x -> x.lists(0, p));
        }
        row("lists(3, 0)", -6, x -> x.lists(3, 0));
        for (int i : Due.outside(0, 1)) {
            row("image(" + i + ")", -2, x -> x.image(i));
            row("restore(" + i + ")", -2, x -> x.restore(i));
        }
        row("restore(1)", -5, x -> x.restore(1));
    }

    private static void tellFallen() {
        row("saw(0)", -12, x -> x.saw(0));
        row("saw(2)", -12, x -> x.saw(2));
        row("holding()", -5, x -> x.holding());
        row("felling()", -5, x -> x.felling());
        row("moved(0, 0, 1)", -99000001, x -> x.moved(0, 0, 1));
    }

    private static void tellFull() {
        row("feed", -5, x -> x.feed(0, 0, 0, 0, 0));
        row("feed of other bytes", -5, x -> x.feed(-1, Integer.MIN_VALUE, Integer.MAX_VALUE, 0x20202020, 1));
        row("cave(901)", -3, x -> x.cave(901));
        row("undo(11)", -3, x -> x.undo(11));
    }

    private static void tellOfNothing() {
        row("cave(1)", -3, x -> x.cave(1));
        row("cave(-1)", -3, x -> x.cave(-1));
        row("pair(0, 0)", -2, x -> x.pair(0, 0));
        row("grown(0, 0, 0)", -99000002, x -> x.grown(0, 0, 0));
        row("year(2)", -11, x -> x.year(2));
        row("lead(1)", -11, x -> x.lead(1));
        row("saw(0)", -11, x -> x.saw(0));
        row("chalk(0, 0)", -11, x -> x.chalk(0, 0));
        row("undo(1)", -3, x -> x.undo(1));
        row("perform(0)", -6, x -> x.perform(0));
        row("judge(0, 0)", -6, x -> x.judge(0, 0));
        row("write(0, 0, 1)", -6, x -> x.write(0, 0, 1));
        row("lists(0, 0)", -2, x -> x.lists(0, 0));
        row("seen(0, 0)", -2, x -> x.seen(0, 0));
        row("numbers(0, 0, 41)", -3, x -> x.numbers(0, 0, 41));
        row("restore(0)", -5, x -> x.restore(0));
        row("age(1, 0)", -3, x -> x.age(1, 0));
        row("soonest(1)", -3, x -> x.soonest(1));
    }

    /** Behind a fault all stays but the tape, which is empty, and what fault() tells. */
    private static void faults() {
        String much = "cave drops 4;pair gap 1 chalk 8;pair gap 2 chalk 7;pair gap 3;pair gap 4;lead 1 1 1 1;dry 9;grows:0-9;falls:1=1;";
        String[] texts = {"", "#", "cave drops 5;", much + "#", much + "1234", much + "pair gap 1;", much + "lead 4;", much + "dry 11;",
            much + "grows:((((((((1", much + "falls:1", "cave drops 4;" + "pair gap 1;".repeat(5)};
        Use[] uses = {RefusalsTest::asTold, RefusalsTest::used, RefusalsTest::full, RefusalsTest::fallen, x -> { }};
        for (Use use : uses) {
            StoneMeet still = new StoneMeet();
            use.of(still);
            still.cave(0);
            List<String> want = Look.at(still);
            for (String text : texts) {
                StoneMeet x = new StoneMeet();
                use.of(x);
                x.cave(0);
                due.is("the fault of " + text, Due.tell(x, text) < -30 ? 1 : 0, 1);
                due.is("the tape behind " + text, x.count(8), 0);
                due.is("no text", x.cave(0), -32);
                String other = Look.difference(Look.at(x), want);
                due.is("behind the fault of " + text + " " + other, other.isEmpty() ? 0 : 1, 0);
            }
        }
    }

    // ---- what only asks

    private static void tellAsking() {
        for (int what = -1; what <= 10; what++) {
            int told = what;
            asks("count(" + told + ")", x -> x.count(told));
            asks("fault(" + told + ")", x -> x.fault(told));
            asks("judge(0, " + told + ")", x -> x.judge(0, told));
            asks("judge(1, " + told + ")", x -> x.judge(1, told));
        }
        for (int p = 0; p < 3; p++) {
            int q = p;
            asks("pair", x -> x.pair(q, q));
            asks("grown", x -> x.grown(q, 4, 1));
            asks("lies", x -> x.lies(q, 99999));
            asks("meets", x -> x.meets(q));
            asks("order", x -> x.order(q));
            asks("moved", x -> x.moved(q, 0, 1));
            asks("forces", x -> x.forces(q));
            asks("best", x -> x.best(q));
            asks("chance", x -> x.chance(q, 8, 1));
            asks("mean", x -> x.mean(q, 8, 0));
            asks("fallen", x -> x.fallen(q, 0));
            asks("seen", x -> x.seen(1, q));
            asks("seenDry", x -> x.seenDry(1, q, 2));
            asks("surely", x -> x.surely(1, q, 1));
            asks("chalks", x -> x.chalks(1, q));
            asks("attempt", x -> x.attempt(1, q));
        }
        for (int set = 0; set < 8; set++) {
            int all = set;
            asks("soonest", x -> x.soonest(all));
            asks("way", x -> x.way(all, 1));
            asks("rows", x -> x.rows(all, 5));
        }
        asks("leadings", x -> x.leadings());
        asks("falls", x -> x.falls());
        asks("most", x -> x.most());
        asks("holding", x -> x.holding());
        asks("felling", x -> x.felling());
        asks("stands", x -> x.stands());
    }
}
