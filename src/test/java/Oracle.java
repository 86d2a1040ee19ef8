import java.math.BigInteger;
import java.util.ArrayDeque;
import java.util.ArrayList;
import java.util.Arrays;
import java.util.Deque;
import java.util.HashMap;
import java.util.HashSet;
import java.util.List;
import java.util.Map;
import java.util.Set;
import java.util.TreeMap;
import java.util.TreeSet;

/**
 * The document once more, as plainly as can be and by other means than the program (trees of laws,
 * lists of gaps, sets of states, rows tried one by one), so that both can be held against each other.
 */
final class Oracle {
    static final int NONE = -1;

    /** A text that can't be read. */
    private static final class Fault extends RuntimeException {
        private static final long serialVersionUID = 1L;
        final int kind;
        final int place;

        Fault(int kind, int place) {
            this.kind = kind;
            this.place = place;
        }
    }

    private record Token(char kind, String word, int place) { }

    private interface Part {
        long of(Map<String, Integer> known);
    }

    private static final class Told {
        int drops;
        int dry;
        int lines;
        List<Integer> gaps = new ArrayList<>();
        List<Integer> chalk = new ArrayList<>();
        List<Integer> lead;
        Part grows;
        Part falls;
    }

    /** How all stands; never changed once made. */
    private record State(List<Integer> gaps, boolean fallen) { }

    private record Moment(State state, List<Integer> lead, List<Integer> chalk, int years) { }

    private record Image(Told told, Moment moment) { }

    private StringBuilder tape = new StringBuilder();
    private int faultKind = 0;
    private int faultPlace = NONE;
    private Told told = new Told();
    private Moment now = new Moment(new State(List.of(), false), List.of(), List.of(), 0);
    private Deque<Moment> past = new ArrayDeque<>();
    private final long[][] trays = new long[4][];
    private final int[] sorts = new int[4];
    private final Image[] images = new Image[2];

    // ---- reading

    private static List<Token> tokens(String text) {
        List<Token> all = new ArrayList<>();
        int i = 0;
        while (i < text.length()) {
            char c = text.charAt(i);
            if (c == ' ' || c == '\n') {
                i++;
                continue;
            }
            String rest = text.substring(i);
            String word = rest.replaceFirst("(?s)^([a-z]+).*", "$1");
            String number = rest.replaceFirst("(?s)^([0-9]+).*", "$1");
            if (c >= 'a' && c <= 'z') {
                all.add(new Token('w', word, i));
                i += word.length();
            } else if (c >= '0' && c <= '9') {
                all.add(new Token(number.length() > 3 ? '?' : 'n', number, i));
                i += number.length();
            } else {
                all.add(new Token(";:+-*()[]=<>".indexOf(c) >= 0 ? 'w' : '?', "" + c, i));
                i++;
            }
        }
        all.add(new Token('e', "", text.length()));
        return all;
    }

    private List<Token> line;
    private int at;
    private boolean growing;

    private Token here() {
        return line.get(at);
    }

    private boolean is(String word) {
        return here().kind() == 'w' && here().word().equals(word);
    }

    private Fault cant() {
        return new Fault(here().kind() == '?' ? 1 : 2, here().place());
    }

    private void need(String word) {
        if (!is(word)) {
            throw cant();
        }
        at++;
    }

    private int number(int least, int most) {
        if (here().kind() != 'n') {
            throw cant();
        }
        int n = Integer.parseInt(here().word());
        if (n < least || n > most) {
            throw new Fault(3, here().place());
        }
        at++;
        return n;
    }

    private Told read(String text) {
        line = tokens(text);
        at = 0;
        Told t = new Told();
        need("cave");
        need("drops");
        t.drops = number(0, 4);
        need(";");
        t.lines = 1;
        while (here().kind() != 'e') {
            readLine(t);
            need(";");
            t.lines++;
        }
        if (t.lead == null) {
            t.lead = new ArrayList<>();
            for (int p = 0; p < t.gaps.size(); p++) {
                t.lead.add(p == 0 ? t.drops : 0);
            }
        }
        return t;
    }

    private void readLine(Told t) {
        if (is("pair")) {
            if (t.lead != null) {
                throw new Fault(2, here().place());
            }
            if (t.gaps.size() == 4) {
                throw new Fault(4, here().place());
            }
            at++;
            need("gap");
            t.gaps.add(number(0, 9));
            int chalk = 1;
            while (is("chalk")) {
                at++;
                chalk = number(0, 9);
            }
            t.chalk.add(chalk);
        } else if (is("lead")) {
            if (t.gaps.isEmpty()) {
                throw new Fault(2, here().place());
            }
            at++;
            List<Integer> lead = new ArrayList<>();
            int left = t.drops;
            for (int p = 0; p < t.gaps.size(); p++) {
                int n = number(p == t.gaps.size() - 1 ? left : 0, left);
                left -= n;
                lead.add(n);
            }
            t.lead = lead;
        } else if (is("dry")) {
            at++;
            t.dry = number(0, 10);
        } else if (is("grows")) {
            at++;
            need(":");
            growing = true;
            t.grows = sum(0);
        } else if (is("falls")) {
            at++;
            need(":");
            growing = false;
            t.falls = truth(0);
        } else {
            throw cant();
        }
    }

    private static long kept(long v) {
        return v < -1000000 ? -1000000 : v > 1000000 ? 1000000 : v;
    }

    private void enter(int depth) {
        if (depth == 6) {
            throw new Fault(4, here().place());
        }
        at++;
    }

    private Part sum(int depth) {
        Part left = term(depth);
        while (is("+") || is("-")) {
            boolean plus = is("+");
            at++;
            Part a = left;
            Part b = term(depth);
            left = plus ? k -> kept(a.of(k) + b.of(k)) : k -> kept(a.of(k) - b.of(k));
        }
        return left;
    }

    private Part term(int depth) {
        Part left = atom(depth);
        while (is("*")) {
            at++;
            Part a = left;
            Part b = atom(depth);
            left = k -> kept(a.of(k) * b.of(k));
        }
        return left;
    }

    private Part atom(int depth) {
        if (here().kind() == 'n') {
            int n = number(0, 999);
            return k -> n;
        }
        if (is("(")) {
            enter(depth);
            Part in = sum(depth + 1);
            need(")");
            return in;
        }
        if (is("if")) {
            enter(depth);
            Part test = truth(depth + 1);
            need("then");
            Part one = sum(depth + 1);
            need("else");
            Part other = sum(depth + 1);
            need("end");
            return k -> test.of(k) != 0 ? one.of(k) : other.of(k);
        }
        List<String> words = growing
                ? List.of("met", "dry", "pair", "chalk", "drops", "gap")
                : List.of("met", "dry", "gaps", "widest");
        if (here().kind() != 'w' || !words.contains(here().word())) {
            throw cant();
        }
        String word = here().word();
        at++;
        return k -> k.get(word);
    }

    private Part truth(int depth) {
        Part left = both(depth);
        while (is("or")) {
            at++;
            Part a = left;
            Part b = both(depth);
            left = k -> a.of(k) != 0 || b.of(k) != 0 ? 1 : 0;
        }
        return left;
    }

    private Part both(int depth) {
        Part left = unit(depth);
        while (is("and")) {
            at++;
            Part a = left;
            Part b = unit(depth);
            left = k -> a.of(k) != 0 && b.of(k) != 0 ? 1 : 0;
        }
        return left;
    }

    private Part unit(int depth) {
        if (is("not")) {
            enter(depth);
            Part in = unit(depth + 1);
            return k -> in.of(k) != 0 ? 0 : 1;
        }
        if (is("[")) {
            enter(depth);
            Part in = truth(depth + 1);
            need("]");
            return in;
        }
        Part a = sum(depth);
        if (!is("=") && !is("<") && !is(">")) {
            throw cant();
        }
        char sign = here().word().charAt(0);
        at++;
        Part b = sum(depth);
        return k -> {
            int order = Long.compare(a.of(k), b.of(k));
            return (sign == '=' ? order == 0 : sign == '<' ? order < 0 : order > 0) ? 1 : 0;
        };
    }

    // ---- years

    private int pairs() {
        return told.gaps.size();
    }

    private static int metIn(State s) {
        int met = 0;
        for (int gap : s.gaps()) {
            met += gap == 0 ? 1 : 0;
        }
        return met;
    }

    private static int bitsOf(State s) {
        int bits = 0;
        for (int p = 0; p < s.gaps().size(); p++) {
            bits |= s.gaps().get(p) == 0 ? 1 << p : 0;
        }
        return bits;
    }

    private static int sumOf(State s) {
        int all = 0;
        for (int gap : s.gaps()) {
            all += gap;
        }
        return all;
    }

    private int growth(State s, int p, int drops, int chalk, int dry) {
        if (told.grows == null) {
            return dry == 1 ? 0 : drops;
        }
        Map<String, Integer> k = new HashMap<>();
        k.put("met", metIn(s));
        k.put("dry", dry);
        k.put("pair", p);
        k.put("chalk", chalk);
        k.put("drops", drops);
        k.put("gap", s.gaps().get(p));
        long v = told.grows.of(k);
        return (int) (v > 9 ? 9 : v < -9 ? -9 : v);
    }

    private State after(State s, List<Integer> lead, List<Integer> chalk, int dry) {
        if (s.fallen()) {
            return s;
        }
        List<Integer> gaps = new ArrayList<>();
        for (int p = 0; p < pairs(); p++) {
            int gap = s.gaps().get(p);
            int less = gap - (gap == 0 ? 0 : growth(s, p, lead.get(p), chalk.get(p), dry));
            gaps.add(less < 0 ? 0 : less > 9 ? 9 : less);
        }
        State then = new State(gaps, false);
        if (told.falls == null) {
            return then;
        }
        Map<String, Integer> k = new HashMap<>();
        k.put("met", metIn(then));
        k.put("dry", dry);
        k.put("gaps", sumOf(then));
        int widest = 0;
        for (int gap : gaps) {
            widest = Math.max(widest, gap);
        }
        k.put("widest", widest);
        return new State(gaps, told.falls.of(k) != 0);
    }

    private State afterNow(State s) {
        return after(s, now.lead(), now.chalk(), 0);
    }

    private static int numberOf(List<Integer> lead) {
        int n = 0;
        for (int p = lead.size() - 1; p >= 0; p--) {
            n = n * 5 + lead.get(p);
        }
        return n;
    }

    private TreeMap<Integer, List<Integer>> allLeads() {
        TreeMap<Integer, List<Integer>> all = new TreeMap<>();
        if (pairs() == 0) {
            all.put(0, List.of());
        } else {
            addLeads(new ArrayList<>(), told.drops, all);
        }
        return all;
    }

    private void addLeads(List<Integer> begun, int left, Map<Integer, List<Integer>> all) {
        if (begun.size() == pairs()) {
            if (left == 0) {
                all.put(numberOf(begun), new ArrayList<>(begun));
            }
            return;
        }
        for (int n = 0; n <= left; n++) {
            begun.add(n);
            addLeads(begun, left - n, all);
            begun.remove(begun.size() - 1);
        }
    }

    // ---- the cave

    int feed(int a, int b, int c, int d, int e) {
        if (tape.length() > 880) {
            return -5;
        }
        for (int v : new int[] {a, b, c, d, e}) {
            tape.append((char) (v >>> 24)).append((char) (v >>> 16 & 255));
            tape.append((char) (v >>> 8 & 255)).append((char) (v & 255));
        }
        return tape.length();
    }

    int cave(int n) {
        if (n < 0 || n > tape.length()) {
            return -3;
        }
        String text = tape.substring(0, n);
        tape = new StringBuilder();
        try {
            told = read(text);
        } catch (Fault f) {
            faultKind = f.kind;
            faultPlace = f.place;
            return -30 - f.kind;
        }
        faultKind = 0;
        faultPlace = NONE;
        now = new Moment(new State(told.gaps, false), told.lead, told.chalk, 0);
        past.clear();
        return told.lines;
    }

    int fault(int what) {
        return what == 0 ? faultKind : what == 1 ? faultPlace : NONE;
    }

    private boolean no(int p) {
        return p < 0 || p >= pairs();
    }

    int pair(int p, int what) {
        if (no(p) || what < 0 || what > 3) {
            return -2;
        }
        return List.of(now.state().gaps(), now.chalk(), now.lead(), told.gaps).get(what).get(p);
    }

    int grown(int p, int drops, int dry) {
        if (no(p)) {
            return -99000002;
        }
        if (drops < 0 || drops > 4 || dry < 0 || dry > 1) {
            return -99000003;
        }
        return now.state().gaps().get(p) == 0 ? 0 : growth(now.state(), p, drops, now.chalk().get(p), dry);
    }

    int leadings() {
        return allLeads().size();
    }

    // ---- deeds

    private static List<Integer> with(List<Integer> list, int p, int v) {
        List<Integer> other = new ArrayList<>(list);
        other.set(p, v);
        return other;
    }

    /** The moment behind a deed, null if it can't be. */
    private Moment done(Moment m, long v) {
        if (v == 0 || v == 1) {
            State s = after(m.state(), m.lead(), m.chalk(), (int) v);
            return new Moment(s, m.lead(), m.chalk(), m.years() + 1);
        }
        if (whyNot(m, v) != 0) {
            return null;
        }
        if (v < 100) {
            int p = (int) v - 10;
            State s = new State(with(m.state().gaps(), p, told.gaps.get(p)), m.state().fallen());
            return new Moment(s, m.lead(), m.chalk(), m.years());
        }
        if (v < 1000) {
            List<Integer> chalk = with(m.chalk(), (int) (v - 100) / 10, (int) v % 10);
            return new Moment(m.state(), m.lead(), chalk, m.years());
        }
        return new Moment(m.state(), allLeads().get((int) v - 1000), m.chalk(), m.years());
    }

    private int whyNot(Moment m, long v) {
        if (v == 0 || v == 1) {
            return 0;
        }
        if (v >= 10 && v <= 19) {
            return no((int) v - 10) ? 1 : m.state().fallen() ? 2 : 0;
        }
        if (v >= 100 && v <= 199) {
            return no((int) (v - 100) / 10) ? 1 : 0;
        }
        if (v >= 1000 && v <= 1999) {
            return allLeads().containsKey((int) v - 1000) ? 0 : 1;
        }
        return 1;
    }

    private void keep(Moment then) {
        past.push(now);
        if (past.size() > 10) {
            past.removeLast();
        }
        now = then;
    }

    int year(int dry) {
        if (dry != 0 && dry != 1) {
            return -11;
        }
        int met = metIn(now.state());
        keep(done(now, dry));
        return metIn(now.state()) - met;
    }

    int lead(int number) {
        if (!allLeads().containsKey(number)) {
            return -11;
        }
        int was = numberOf(now.lead());
        keep(done(now, 1000 + number));
        return was;
    }

    int saw(int p) {
        if (no(p)) {
            return -11;
        }
        if (now.state().fallen()) {
            return -12;
        }
        int was = now.state().gaps().get(p);
        keep(done(now, 10 + p));
        return was;
    }

    int chalk(int p, int n) {
        if (no(p) || n < 0 || n > 9) {
            return -11;
        }
        int was = now.chalk().get(p);
        keep(done(now, 100 + 10 * p + n));
        return was;
    }

    int undo(int n) {
        if (n < 1 || n > 10 || n > past.size()) {
            return -3;
        }
        for (int i = 0; i < n; i++) {
            now = past.pop();
        }
        return past.size();
    }

    int judge(int tray, int what) {
        if (tray < 0 || tray > 3 || what < 0 || what > 3) {
            return -2;
        }
        if (trays[tray] == null) {
            return -6;
        }
        Moment m = now;
        for (int i = 0; i < trays[tray].length; i++) {
            int why = whyNot(m, trays[tray][i]);
            if (why != 0) {
                return new int[] {i, why, bitsOf(m.state()), sumOf(m.state())}[what];
            }
            m = done(m, trays[tray][i]);
        }
        return new int[] {NONE, 0, bitsOf(m.state()), sumOf(m.state())}[what];
    }

    int perform(int tray) {
        if (tray < 0 || tray > 3) {
            return -2;
        }
        if (trays[tray] == null) {
            return -6;
        }
        Moment m = now;
        int count = 0;
        for (long v : trays[tray]) {
            Moment then = done(m, v);
            if (then == null) {
                break;
            }
            m = then;
            count++;
        }
        if (count > 0) {
            keep(m);
        }
        return count;
    }

    private int seedNow;

    private int draw(int bound) {
        seedNow = seedNow * 1103515245 + 12345;
        return (seedNow >>> 16) % bound;
    }

    int age(int seed, int times) {
        if (times < 1 || times > 40) {
            return -3;
        }
        seedNow = seed;
        Moment m = now;
        int count = 0;
        for (int i = 0; i < times; i++) {
            int v;
            switch (draw(6)) {
                case 3 -> v = 10 + draw(4);
                case 4 -> v = 100 + 10 * draw(4) + draw(10);
                case 5 -> v = 1000 + draw(625);
                default -> v = draw(3) == 0 ? 1 : 0;
            }
            Moment then = done(m, v);
            if (then != null) {
                m = then;
                count++;
            }
        }
        if (count > 0) {
            keep(m);
        }
        return count;
    }

    // ---- as it is led

    /** All states as it is led, till one has been before. */
    private List<State> line(List<Integer> lead) {
        List<State> all = new ArrayList<>();
        Set<State> known = new HashSet<>();
        State s = now.state();
        while (known.add(s)) {
            all.add(s);
            s = after(s, lead, now.chalk(), 0);
        }
        return all;
    }

    int lies(int p, int n) {
        if (no(p)) {
            return -2;
        }
        if (n < 0 || n > 99999) {
            return -3;
        }
        List<State> all = line(now.lead());
        if (n < all.size()) {
            return all.get(n).gaps().get(p);
        }
        int back = all.indexOf(afterNow(all.get(all.size() - 1)));
        return all.get(back + (n - back) % (all.size() - back)).gaps().get(p);
    }

    private int meetsWith(int p, List<Integer> lead) {
        List<State> all = line(lead);
        for (int i = 0; i < all.size(); i++) {
            if (all.get(i).gaps().get(p) == 0) {
                return i;
            }
        }
        return NONE;
    }

    int meets(int p) {
        return no(p) ? -2 : meetsWith(p, now.lead());
    }

    int order(int i) {
        if (i < 0) {
            return -3;
        }
        List<int[]> all = new ArrayList<>();
        for (int p = 0; p < pairs(); p++) {
            if (meets(p) != NONE) {
                all.add(new int[] {meets(p), p});
            }
        }
        all.sort(Arrays::compare);
        return i < all.size() ? all.get(i)[1] : NONE;
    }

    int falls() {
        List<State> all = line(now.lead());
        for (int i = 0; i < all.size(); i++) {
            if (all.get(i).fallen()) {
                return i;
            }
        }
        return NONE;
    }

    int moved(int p, int from, int to) {
        if (no(p) || no(from) || no(to) || from == to) {
            return -99000002;
        }
        if (now.lead().get(from) == 0) {
            return -99000005;
        }
        List<Integer> lead = with(now.lead(), from, now.lead().get(from) - 1);
        lead.set(to, lead.get(to) + 1);
        int so = meetsWith(p, lead);
        int is = meetsWith(p, now.lead());
        return so == NONE || is == NONE ? -99000001 : so - is;
    }

    // ---- led well

    private final Map<List<Object>, List<State>> nexts = new HashMap<>();
    private Told nextsTold;

    /** States behind a year that isn't dry (or is), by leadings in their order. */
    private List<State> next(State s, int dry) {
        if (nextsTold != told) {
            nexts.clear();
            nextsTold = told;
        }
        return nexts.computeIfAbsent(List.of(s, now.chalk(), dry), key -> {
            List<State> all = new ArrayList<>();
            for (List<Integer> lead : allLeads().values()) {
                all.add(after(s, lead, now.chalk(), dry));
            }
            return all;
        });
    }

    private boolean bad(int set) {
        return set < 0 || set >= 1 << pairs();
    }

    private static boolean allMet(State s, int set) {
        return (bitsOf(s) & set) == set;
    }

    /** Years ahead of the goal, by states that hold the roof: found backward, round by round. */
    private Map<State, Integer> distances(int set) {
        Set<State> all = closure();
        Map<State, Integer> far = new HashMap<>();
        for (State s : all) {
            if (allMet(s, set)) {
                far.put(s, 0);
            }
        }
        boolean more = true;
        for (int years = 1; more; years++) {
            more = false;
            List<State> found = new ArrayList<>();
            for (State s : all) {
                if (!far.containsKey(s) && !s.fallen()) {
                    for (State t : next(s, 0)) {
                        if (far.containsKey(t)) {
                            found.add(s);
                            break;
                        }
                    }
                }
            }
            for (State s : found) {
                far.put(s, years);
                more = true;
            }
        }
        return far;
    }

    int soonest(int set) {
        return bad(set) ? -3 : distances(set).getOrDefault(now.state(), NONE);
    }

    int way(int set, int i) {
        if (bad(set) || i < 0) {
            return -3;
        }
        Map<State, Integer> far = distances(set);
        State s = now.state();
        int left = far.getOrDefault(s, NONE);
        if (i >= left) {
            return NONE;
        }
        List<Integer> numbers = new ArrayList<>(allLeads().keySet());
        for (int y = 0;; y++) {
            for (int k = 0; k < numbers.size(); k++) {
                State t = next(s, 0).get(k);
                if (far.getOrDefault(t, NONE) == left - 1) {
                    if (y == i) {
                        return numbers.get(k);
                    }
                    s = t;
                    left--;
                    break;
                }
            }
        }
    }

    long rows(int set, int n) {
        if (bad(set) || n < 0 || n > 8) {
            return -3;
        }
        return rowsFrom(now.state(), set, n, new HashMap<>());
    }

    private long rowsFrom(State s, int set, int n, Map<List<Object>, Long> known) {
        if (n == 0) {
            return allMet(s, set) ? 1 : 0;
        }
        List<Object> key = List.of(s, n);
        Long was = known.get(key);
        if (was != null) {
            return was;
        }
        long all = 0;
        for (State t : next(s, 0)) {
            all += rowsFrom(t, set, n - 1, known);
        }
        known.put(key, all);
        return all;
    }

    private Set<State> closure() {
        Set<State> all = new HashSet<>(Set.of(now.state()));
        Deque<State> open = new ArrayDeque<>(all);
        while (!open.isEmpty()) {
            for (State t : next(open.pop(), 0)) {
                if (all.add(t)) {
                    open.push(t);
                }
            }
        }
        return all;
    }

    int most() {
        int most = 0;
        for (State s : closure()) {
            most = Math.max(most, metIn(s));
        }
        return most;
    }

    int holding() {
        if (now.state().fallen()) {
            return -5;
        }
        Set<State> all = closure();
        all.removeIf(State::fallen);
        // Those from which the roof must fall go, round by round; it holds for ever if now's never does.
        for (int years = 0;; years++) {
            List<State> ends = new ArrayList<>();
            for (State s : all) {
                boolean ended = true;
                for (State t : next(s, 0)) {
                    ended &= !all.contains(t);
                }
                if (ended) {
                    ends.add(s);
                }
            }
            if (ends.isEmpty()) {
                return NONE;
            }
            all.removeAll(new HashSet<>(ends));
            if (!all.contains(now.state())) {
                return years;
            }
        }
    }

    int felling() {
        if (now.state().fallen()) {
            return -5;
        }
        Set<State> level = Set.of(now.state());
        Set<State> known = new HashSet<>();
        for (int years = 1; !level.isEmpty(); years++) {
            Set<State> then = new HashSet<>();
            for (State s : level) {
                for (State t : next(s, 0)) {
                    if (t.fallen()) {
                        return years;
                    }
                    if (known.add(t)) {
                        then.add(t);
                    }
                }
            }
            level = then;
        }
        return NONE;
    }

    int stands() {
        return closure().size();
    }

    // ---- seen

    private int refusal(int tray, int p) {
        if (tray < 0 || tray > 3 || no(p)) {
            return -2;
        }
        if (trays[tray] == null) {
            return -6;
        }
        if (trays[tray].length < 1 || trays[tray].length > 10) {
            return -4;
        }
        for (long v : trays[tray]) {
            if (v < -1 || v > 9) {
                return -3;
            }
        }
        return 0;
    }

    private boolean fits(long[] seen, int p, String row, List<Integer> chalk) {
        State s = now.state();
        for (int i = 0; i < seen.length; i++) {
            s = after(s, now.lead(), chalk, row.charAt(i) - '0');
            if (seen[i] != NONE && seen[i] != s.gaps().get(p)) {
                return false;
            }
        }
        return true;
    }

    /** The rows as texts of 0 and 1, in their order. */
    private TreeSet<String> rowsSeen(int tray, int p) {
        TreeSet<String> all = new TreeSet<>();
        int n = trays[tray].length;
        for (int i = 0; i < 1 << n; i++) {
            String row = Integer.toBinaryString(1 << n | i).substring(1);
            if (fits(trays[tray], p, row, now.chalk())) {
                all.add(row);
            }
        }
        return all;
    }

    int seen(int tray, int p) {
        int r = refusal(tray, p);
        return r != 0 ? r : rowsSeen(tray, p).size();
    }

    int seenDry(int tray, int p, int i) {
        int r = refusal(tray, p);
        if (r != 0) {
            return r;
        }
        if (i < 0) {
            return -3;
        }
        TreeSet<String> all = rowsSeen(tray, p);
        return all.isEmpty() || i >= trays[tray].length ? NONE : all.first().charAt(i) - '0';
    }

    int surely(int tray, int p, int what) {
        if (what != 0 && what != 1) {
            return -2;
        }
        int r = refusal(tray, p);
        if (r != 0) {
            return r;
        }
        TreeSet<String> all = rowsSeen(tray, p);
        int bits = 0;
        for (int i = 0; i < trays[tray].length && !all.isEmpty(); i++) {
            boolean sure = true;
            for (String row : all) {
                sure &= row.charAt(i) - '0' == what;
            }
            bits |= sure ? 1 << i : 0;
        }
        return bits;
    }

    int chalks(int tray, int p) {
        int r = refusal(tray, p);
        if (r != 0) {
            return r;
        }
        int bits = 0;
        for (int c = 0; c < 10; c++) {
            bits |= fits(trays[tray], p, "0000000000", with(now.chalk(), p, c)) ? 1 << c : 0;
        }
        return bits;
    }

    int attempt(int tray, int p) {
        int bits = chalks(tray, p);
        if (bits < 0) {
            return bits;
        }
        if (now.state().gaps().get(p) == 0) {
            return -5;
        }
        int best = NONE;
        int least = 99;
        for (int drops = 0; drops <= 4 && bits != 0; drops++) {
            Map<Integer, Integer> alike = new HashMap<>();
            int most = 0;
            for (int c = 0; c < 10; c++) {
                if ((bits >> c & 1) == 1) {
                    most = Math.max(most, alike.merge(growth(now.state(), p, drops, c, 0), 1, Integer::sum));
                }
            }
            if (most < least) {
                least = most;
                best = drops;
            }
        }
        return best;
    }

    // ---- by turns

    private Map<State, Integer> forced(int p) {
        Set<State> all = new HashSet<>(Set.of(now.state()));
        Deque<State> open = new ArrayDeque<>(all);
        while (!open.isEmpty()) {
            State s = open.pop();
            for (int dry = 0; dry < 2; dry++) {
                for (State t : next(s, dry)) {
                    if (all.add(t)) {
                        open.push(t);
                    }
                }
            }
        }
        Map<State, Integer> within = new HashMap<>();
        for (State s : all) {
            if (s.gaps().get(p) == 0) {
                within.put(s, 0);
            }
        }
        for (int years = 1;; years++) {
            Map<State, Integer> found = new HashMap<>();
            for (State s : all) {
                if (!within.containsKey(s) && firstForcing(s, within) >= 0) {
                    found.put(s, years);
                }
            }
            if (found.isEmpty()) {
                return within;
            }
            within.putAll(found);
        }
    }

    /** The place of the first leading behind which all is in a map, whatever the lamp does. */
    private int firstForcing(State s, Map<State, Integer> within) {
        for (int k = 0; k < allLeads().size(); k++) {
            if (within.containsKey(next(s, 0).get(k)) && within.containsKey(next(s, 1).get(k))) {
                return k;
            }
        }
        return NONE;
    }

    int forces(int p) {
        return no(p) ? -2 : forced(p).getOrDefault(now.state(), NONE);
    }

    int best(int p) {
        if (no(p)) {
            return -2;
        }
        Map<State, Integer> within = forced(p);
        int years = within.getOrDefault(now.state(), NONE);
        if (years <= 0) {
            return NONE;
        }
        within.values().removeIf(n -> n >= years);
        return new ArrayList<>(allLeads().keySet()).get(firstForcing(now.state(), within));
    }

    // ---- chances

    private interface Worth {
        int of(State s);
    }

    private int fraction(int n, int what, Worth worth) {
        BigInteger above = BigInteger.ZERO;
        for (int i = 0; i < 1 << n; i++) {
            State s = now.state();
            BigInteger weight = BigInteger.ONE;
            for (int y = 0; y < n; y++) {
                int dry = i >> y & 1;
                s = after(s, now.lead(), now.chalk(), dry);
                weight = weight.multiply(BigInteger.valueOf(dry == 1 ? told.dry : 10 - told.dry));
            }
            above = above.add(weight.multiply(BigInteger.valueOf(worth.of(s))));
        }
        BigInteger below = BigInteger.TEN.pow(n);
        BigInteger common = above.gcd(below);
        return (what == 0 ? above : below).divide(common).intValueExact();
    }

    int chance(int p, int n, int what) {
        if (no(p) || what < 0 || what > 1) {
            return -2;
        }
        return n < 0 || n > 8 ? -3 : fraction(n, what, s -> s.gaps().get(p) == 0 ? 1 : 0);
    }

    int mean(int p, int n, int what) {
        if (no(p) || what < 0 || what > 1) {
            return -2;
        }
        return n < 0 || n > 8 ? -3 : fraction(n, what, s -> s.gaps().get(p));
    }

    int fallen(int n, int what) {
        if (what < 0 || what > 1) {
            return -2;
        }
        return n < 0 || n > 8 ? -3 : fraction(n, what, s -> s.fallen() ? 1 : 0);
    }

    // ---- trays, images

    int numbers(int tray, int sort, int n) {
        if (tray < 0 || tray > 3 || sort < 0 || sort > 3) {
            return -2;
        }
        if (n < 0 || n > 40) {
            return -3;
        }
        trays[tray] = new long[n];
        sorts[tray] = sort;
        return 0;
    }

    long write(int tray, int i, long v) {
        if (tray < 0 || tray > 3) {
            return -2;
        }
        if (trays[tray] == null) {
            return -6;
        }
        if (i < 0 || i >= trays[tray].length) {
            return -7;
        }
        int off = 64 - (8 << sorts[tray]);
        trays[tray][i] = v << off >> off;
        return trays[tray][i];
    }

    int lists(int tray, int p) {
        if (tray < 0 || tray > 3 || no(p)) {
            return -2;
        }
        if (trays[tray] == null) {
            return -6;
        }
        for (int i = 0; i < trays[tray].length; i++) {
            trays[tray][i] = lies(p, i + 1);
        }
        return trays[tray].length;
    }

    int image(int i) {
        if (i < 0 || i > 1) {
            return -2;
        }
        images[i] = new Image(told, now);
        return 0;
    }

    int restore(int i) {
        if (i < 0 || i > 1) {
            return -2;
        }
        if (images[i] == null) {
            return -5;
        }
        told = images[i].told();
        now = images[i].moment();
        past.clear();
        return 0;
    }

    int count(int what) {
        return switch (what) {
            case 0 -> pairs();
            case 1 -> told.drops;
            case 2 -> bitsOf(now.state());
            case 3 -> sumOf(now.state());
            case 4 -> numberOf(now.lead());
            case 5 -> now.state().fallen() ? 1 : 0;
            case 6 -> now.years();
            case 7 -> past.size();
            case 8 -> tape.length();
            case 9 -> told.lines;
            default -> NONE;
        };
    }
}
