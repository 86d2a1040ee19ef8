import java.util.ArrayList;
import java.util.List;

/**
 * The cave's language at its edges: each bound that "Terms" tells of a text on both sides, with the
 * fault and the place that are due, and that all stays behind a fault.
 */
public final class TextEdgesTest {
    private static final Due due = new Due();
    private static final String CAVE = "cave drops 2;";
    private static final String SIGNS = ";:+-*()[]=<>";
    private static final int BYTES = 900;

    public static void main(String[] args) {
        shortest();
        longest();
        onlyTheFirst();
        everyByte();
        tokensGoOn();
        numbers();
        numbersOfLaws();
        pairs();
        everyLead();
        leadNumbers();
        strikes();
        everyToken();
        words();
        depths();
        besides();
        chains();
        leastKinds();
        due.end("TextEdgesTest");
    }

    private static String filled(String text, int length, char with) {
        return text + String.valueOf(with).repeat(length - text.length());
    }

    // ---- lengths

    private static void shortest() {
        StoneMeet x = new StoneMeet();
        due.is("no bytes, of an empty tape", x.cave(0), -32);
        due.is("its place", x.fault(1), 0);
        Due.tape(x, CAVE);
        due.is("no bytes, of a tape that has some", x.cave(0), -32);
        due.is("its place", x.fault(1), 0);
        due.is("the tape is empty then", x.count(8), 0);
        due.fault(2, 0, "");
        due.fault(2, 1, " ");
        due.fault(2, 1, "\n");
        due.fault(2, BYTES, filled("", BYTES, ' '));
        due.fault(2, BYTES, filled("", BYTES, '\n'));
        for (int b = 0; b < 256; b++) {
            if (b != ' ' && b != '\n') {
                due.fault(beginsToken(b) ? 2 : 1, 0, "" + (char) b);
            }
        }
    }

    private static void longest() {
        due.whole(1, filled(CAVE, BYTES, ' '));
        due.whole(1, filled(CAVE, BYTES, '\n'));
        due.whole(1, " ".repeat(BYTES - CAVE.length()) + CAVE);
        due.whole(178, filled("cave drops1;" + "dry9;".repeat(177), BYTES, ' '));
        due.whole(178, "cave drops 01;" + "dry 9;" + "dry9;".repeat(176));
        String law = CAVE + "grows: 1" + "+1".repeat(439);
        due.whole(2, law + ";");
        due.is("900 bytes to the last", law.length() + 1, BYTES);
        due.fault(2, BYTES, law + "1");
        due.fault(2, BYTES, law + " ");
        due.fault(2, BYTES, filled("cave drops 2", BYTES, ' '));
        due.fault(1, BYTES - 1, law + "#");
        due.fault(1, BYTES - 1, filled(CAVE, BYTES - 1, ' ') + "\u00ff");
        due.fault(2, BYTES - 1, filled(CAVE, BYTES - 1, ' ') + ";");
        due.fault(2, BYTES - 1, filled(CAVE, BYTES - 1, ' ') + "z");
        due.fault(1, 13, filled(CAVE, BYTES, '0'));
        due.fault(2, 13, filled(CAVE, BYTES, 'g'));
        due.fault(1, 17, filled(CAVE + "dry ", BYTES, '7'));
        due.fault(2, 0, filled("", BYTES, 'c'));
    }

    /** The first n bytes alone are the text. */
    private static void onlyTheFirst() {
        String text = CAVE + "dry 10;grows:1000;pair gap 5;";
        int[] lines = {13, 20};
        for (int n = 0; n <= text.length(); n++) {
            StoneMeet x = new StoneMeet();
            Due.tape(x, text);
            int fault = n < 30 ? 2 : 1;
            int whole = n == lines[0] ? 1 : n == lines[1] ? 2 : -30 - fault;
            due.is("the first " + n + " bytes", x.cave(n), whole);
            boolean midWord = n > 0 && n < 4 || n > 5 && n < 10 || n > 13 && n < 16 || n > 20 && n < 25;
            int begun = n < 4 ? 0 : n < 10 ? 5 : n < 16 ? 13 : 20;
            int place = whole > 0 ? -1 : fault == 1 ? 26 : midWord ? begun : n;
            due.is("the place in the first " + n + " bytes", x.fault(1), place);
        }
        StoneMeet x = new StoneMeet();
        Due.tape(x, CAVE + "#");
        due.is("a fault behind the first 13", x.cave(13), 1);
        Due.tape(x, CAVE + "dry 10;");
        due.is("1 of 10", x.cave(18), -32);
        due.is("the end", x.fault(1), 18);
    }

    // ---- tokens

    private static boolean beginsToken(int b) {
        return b >= 'a' && b <= 'z' || b >= '0' && b <= '9' || SIGNS.indexOf(b) >= 0;
    }

    private static void everyByte() {
        for (int b = 0; b < 256; b++) {
            char c = (char) b;
            boolean blank = b == 32 || b == 10;
            if (blank) {
                due.fault(2, 14, CAVE + c + ";");
                due.whole(1, "cave" + c + "drops 2;");
                due.whole(1, c + CAVE + c);
                due.whole(2, CAVE + "dry" + c + c + "3" + c + ";");
                due.fault(2, 19, CAVE + "dry 1" + c + "0;");
            } else {
                due.fault(beginsToken(b) ? 2 : 1, 13, CAVE + c + ";");
                boolean letter = b >= 'a' && b <= 'z';
                due.fault(beginsToken(b) ? 2 : 1, letter ? 0 : 4, "cave" + c + "drops 2;");
                if (b < '0' || b > '9') {
                    int place = b == ';' ? 19 : 18;
                    due.fault(beginsToken(b) ? 2 : 1, place, CAVE + "dry 1" + c + ";");
                }
            }
        }
    }

    /** Each token as long as it goes on, blanks between or none. */
    private static void tokensGoOn() {
        due.whole(3, "cave drops2;pair gap5chalk3chalk 4;lead2;");
        due.whole(2, "cave\ndrops\n2\n;\ndry\n10\n;\n");
        due.faultAt(2, "^cavedrops 2;");
        due.faultAt(2, "cave ^dropss 2;");
        due.faultAt(2, "cave ^drop s 2;");
        due.faultAt(2, CAVE + "^pairgap 5;");
        due.faultAt(2, CAVE + "^dryd 5;");
        due.faultAt(2, CAVE + "^dr y 5;");
        due.faultAt(2, CAVE + "^pairs gap 5;");
        due.faultAt(2, CAVE + "pair ^gaps 5;");
        due.faultAt(2, CAVE + "pair gap 5^chalks 5;");
        due.faultAt(2, CAVE + "pair gap 1 ^2;");
        due.faultAt(3, CAVE + "pair gap ^12;");
        due.faultAt(2, CAVE + "falls:1=^=1;");
        due.faultAt(2, CAVE + "falls:1<^>1;");
        due.faultAt(2, CAVE + "falls:met ^gaps=1;");
        due.faultAt(2, CAVE + "falls:^metgaps=1;");
        due.faultAt(2, CAVE + "falls:1=1 ^andnot 1=1;");
        due.whole(2, CAVE + "falls:not[1=1]and not(1)=1or 1=1;");
    }

    // ---- numbers

    private static void numbers() {
        bound(4, "cave drops ", ";", 1);
        bound(9, CAVE + "pair gap ", ";", 0);
        bound(9, CAVE + "pair gap 3 chalk ", ";", 0);
        bound(9, CAVE + "pair gap 3 chalk 4 chalk ", ";", 0);
        bound(9, CAVE + "pair gap 3 chalk ", " chalk 9;", 0);
        bound(10, CAVE + "dry ", ";", 0);
        bound(10, CAVE + "dry 4;dry ", ";", 0);
        for (int drops = 0; drops <= 4; drops++) {
            due.is("drops", due.whole(1, "cave drops " + drops + ";").count(1), drops);
        }
        for (int n = 0; n <= 9; n++) {
            StoneMeet x = due.whole(2, CAVE + "pair gap " + n + " chalk " + (9 - n) + ";");
            due.is("gap", x.pair(0, 0), n);
            due.is("the gap told", x.pair(0, 3), n);
            due.is("chalk", x.pair(0, 1), 9 - n);
            due.is("met", x.count(2), n == 0 ? 1 : 0);
        }
        for (int n = 0; n <= 10; n++) {
            StoneMeet x = due.whole(3, "cave drops 1;pair gap 1;dry " + n + ";");
            due.is("the gap on the mean, in tenths", x.mean(0, 1, 0) * (10 / x.mean(0, 1, 1)), n);
        }
    }

    /** A number of 0 to most, in each form that it can have and in those that it can't. */
    private static void bound(int most, String ahead, String behind, int lines) {
        int all = lines > 0 ? lines : (ahead + behind).split(";").length;
        for (int n = 0; n <= 999; n += n < 120 ? 1 : 97) {
            String[] forms = n < 10 ? new String[] {"" + n, "0" + n, "00" + n} : n < 100 ? new String[] {"" + n, "0" + n}
                    : new String[] {"" + n};
            for (String form : forms) {
                if (n <= most) {
                    due.whole(all, ahead + form + behind);
                } else {
                    due.fault(3, ahead.length(), ahead + form + behind);
                }
            }
            due.fault(1, ahead.length(), ahead + String.format("%04d", n) + behind);
        }
        due.fault(3, ahead.length(), ahead + "999" + behind);
        due.fault(1, ahead.length(), ahead + "1000" + behind);
        due.fault(1, ahead.length(), ahead + "0000" + behind);
        due.fault(1, ahead.length(), ahead + "00000000000000000000" + behind);
        due.fault(1, ahead.length(), ahead + "4294967297" + behind);
        due.fault(2, ahead.length(), ahead + "-1" + behind);
        due.fault(2, ahead.length(), ahead + "met" + behind);
        due.fault(2, ahead.length(), ahead + ";" + behind);
        due.fault(1, ahead.length(), ahead + "A" + behind);
        due.fault(2, ahead.length(), ahead);
    }

    private static void numbersOfLaws() {
        for (int n = 3; n <= 999; n += n < 120 ? 1 : 7) {
            String law = "pair gap 5;grows:" + n + "-" + (n - 3) + ";";
            due.is(law, due.whole(3, CAVE + law).grown(0, 0, 0), 3);
        }
        due.is("003", due.whole(3, CAVE + "pair gap 5;grows:003;").grown(0, 0, 0), 3);
        due.is("0", due.whole(3, CAVE + "pair gap 5;grows:000;").grown(0, 0, 0), 0);
        due.is("999", due.whole(3, CAVE + "pair gap 5;grows:999-990;").grown(0, 0, 0), 9);
        due.faultAt(1, CAVE + "grows:^1000;");
        due.faultAt(1, CAVE + "grows:1-^0001;");
        due.faultAt(1, CAVE + "falls:1=^0000;");
        due.faultAt(1, CAVE + "falls:^99999999999=1;");
    }

    // ---- lines

    private static void pairs() {
        StringBuilder text = new StringBuilder(CAVE);
        for (int n = 0; n <= 4; n++) {
            StoneMeet x = due.whole(n + 1, text.toString());
            due.is("pairs", x.count(0), n);
            due.is("a lead without pairs", Due.tell(x, text + "lead"), -32);
            due.is("its place", x.fault(1), text.length() + (n == 0 ? 0 : 4));
            due.is("all drops are led to pair 0", x.count(4), n == 0 ? 0 : 2);
            for (int p = 0; p < n; p++) {
                due.is("gap " + p, x.pair(p, 0), p + 1);
                due.is("drops", x.pair(p, 2), p == 0 ? 2 : 0);
                due.is("chalk, untold", x.pair(p, 1), 1);
            }
            due.is("no more of them", x.pair(n, 0), -2);
            if (n < 4) {
                text.append("pair gap ").append(n + 1).append(';');
            }
        }
        due.faultAt(4, text + "^pair gap 1;");
        due.faultAt(4, text + "^pair");
        due.faultAt(4, text + "^pair gap 10;");
        due.faultAt(4, text + "dry 1;grows:1;falls:1=1;^pair gap 1;");
        due.faultAt(2, text + "lead 2 0 0 0;^pair gap 1;");
        due.faultAt(2, text + "lead 2 0 0 0;dry 1;^pair gap 1;");
        due.faultAt(2, CAVE + "pair gap 1;lead 2;^pair gap 1;");
        due.faultAt(2, CAVE + "^lead 2;pair gap 1;");
        due.faultAt(2, CAVE + "^cave drops 2;");
        due.faultAt(2, CAVE + "pair gap 1;^cave drops 2;");
        due.faultAt(2, "^dry 1;cave drops 2;");
        due.faultAt(2, "^pair gap 1;" + CAVE);
        due.faultAt(2, "^lead 1;" + CAVE);
        due.faultAt(2, "^grows:1;" + CAVE);
        due.faultAt(2, "^falls:1=1;" + CAVE);
        due.faultAt(2, "^;" + CAVE);
        due.faultAt(2, CAVE + "^;");
        due.faultAt(2, CAVE + "dry 1;^;");
    }

    /** Each lead of numbers from 0 to 5, by all drops and pairs there can be. */
    private static void everyLead() {
        for (int drops = 0; drops <= 4; drops++) {
            for (int pairs = 1; pairs <= 4; pairs++) {
                String ahead = "cave drops " + drops + ";" + "pair gap 1;".repeat(pairs) + "lead";
                StoneMeet x = null;
                for (int code = 0; code < Math.pow(6, pairs); code++) {
                    x = code % 40 == 0 ? new StoneMeet() : x;
                    oneLead(x, ahead, drops, pairs, code);
                }
            }
        }
    }

    private static void oneLead(StoneMeet x, String ahead, int drops, int pairs, int code) {
        StringBuilder text = new StringBuilder(ahead);
        int sum = 0;
        int number = 0;
        int place = -1;
        int rest = code;
        for (int p = 0; p < pairs; p++) {
            int n = rest % 6;
            rest /= 6;
            sum += n;
            number += n * (int) Math.pow(5, p);
            boolean wrong = sum > drops || p == pairs - 1 && sum < drops;
            place = place < 0 && wrong ? text.length() + 1 : place;
            text.append(' ').append(n);
        }
        text.append(';');
        due.is("cave of " + text, Due.tell(x, text.toString()), place < 0 ? pairs + 2 : -33);
        due.is("place in " + text, x.fault(1), place);
        if (place < 0) {
            due.is("leading of " + text, x.count(4), number);
            due.is("drops of the last", x.pair(pairs - 1, 2), number / (int) Math.pow(5, pairs - 1));
        }
    }

    private static void leadNumbers() {
        String two = CAVE + "pair gap 5;pair gap 3;";
        due.faultAt(2, two + "lead ^;");
        due.faultAt(2, two + "lead^");
        due.faultAt(2, two + "lead 2^;");
        due.faultAt(2, two + "lead 2 0 ^0;");
        due.faultAt(2, two + "lead 2 0 ^9;");
        due.faultAt(1, two + "lead 2 0 ^9999;");
        due.faultAt(2, two + "lead ^: 2 0;");
        due.faultAt(2, two + "lead 2 ^- 0;");
        due.faultAt(2, two + "lead 2 ^lead 2 0;");
        due.faultAt(3, two + "lead ^3;");
        due.faultAt(3, two + "lead ^999 #");
        due.faultAt(3, two + "lead 0 ^0 2;");
        due.faultAt(3, two + "lead 1 ^2;");
        due.faultAt(3, two + "lead 2 0;lead 1 ^0;");
        due.faultAt(1, two + "lead ^0002 0;");
        due.is("002 and 000", due.whole(4, two + "lead 000 002;").count(4), 10);
        due.faultAt(3, "cave drops 0;pair gap 1;lead ^1;");
        due.is("none of none", due.whole(3, "cave drops 0;pair gap 1;lead 0;").count(4), 0);
        due.is("all of four to the last", due.whole(6, "cave drops 4;" + "pair gap 1;".repeat(4) + "lead 0 0 0 4;").count(4), 500);
    }

    /** What wasn't told, and what was told more than once. */
    private static void strikes() {
        StoneMeet x = due.whole(3, "cave drops 3;pair gap 5;pair gap 6;");
        due.is("untold: all to pair 0", x.count(4), 3);
        due.is("untold: chalk 1", x.pair(1, 1), 1);
        due.is("untold: never dry", x.mean(0, 1, 0), 2);
        due.is("untold: never falls", x.falls(), -1);
        due.is("untold: grows by drops", x.grown(1, 4, 0), 4);
        due.is("untold: not if dry", x.grown(1, 4, 1), 0);
        x = due.whole(14, "cave drops 3;falls:1=1;grows:7;dry 10;pair gap 5 chalk 9 chalk 0 chalk 7;pair gap 6;"
                + "lead 0 3;lead 3 0;lead 1 2;dry 0;dry 5;grows:8;grows:drops;falls:1=2;");
        due.is("the latest lead", x.count(4), 11);
        due.is("the latest chalk", x.pair(0, 1), 7);
        due.is("of that pair alone", x.pair(1, 1), 1);
        due.is("the latest grows", x.grown(0, 2, 1), 2);
        due.is("the latest falls", x.falls(), -1);
        due.is("the latest dry", due.whole(4, "cave drops 1;pair gap 1;dry 10;dry 5;").chance(0, 1, 1), 2);
        due.whole(4, "cave drops 1;pair gap 1;lead 1;lead 1;");
    }

    // ---- each token of a text

    private static final String[] WHOLE = {
        "cave drops 2;pair gap 5;pair gap 3 chalk 2 chalk 1;lead 1 1;dry 3;",
        "cave drops 2;grows:if dry=1 or not met<2 and [gap>3] then(drops+2)*chalk-pair else 0 end;",
        "cave drops 2;falls:gaps=1 and widest>2 or not[met<dry]and if 1=1 then 2 else(3)end=2;",
    };

    private static List<Integer> places(String text) {
        List<Integer> all = new ArrayList<>();
        for (int i = 0; i < text.length(); i++) {
            char c = text.charAt(i);
            char before = i == 0 ? ' ' : text.charAt(i - 1);
            boolean goesOn = Character.isLetter(c) && Character.isLetter(before)
                    || Character.isDigit(c) && Character.isDigit(before);
            if (c != ' ' && !goesOn) {
                all.add(i);
            }
        }
        return all;
    }

    /** Cut off ahead of each token, and each token another one that can't be there. */
    private static void everyToken() {
        for (String text : WHOLE) {
            due.whole(text.split(";").length, text);
            List<Integer> places = places(text);
            for (int i = 0; i < places.size(); i++) {
                int place = places.get(i);
                int end = i + 1 < places.size() ? places.get(i + 1) : text.length();
                String ahead = text.substring(0, place);
                String behind = " " + text.substring(end);
                if (ahead.endsWith(";")) {
                    due.whole(ahead.split(";").length, ahead);
                } else {
                    due.fault(2, place, ahead);
                    due.fault(2, place + 1, ahead + "\n");
                }
                for (String other : new String[] {"?", "1234", "\u0080", "\t"}) {
                    due.fault(1, place + 1, ahead + " " + other + behind);
                }
                due.fault(2, place + 1, ahead + " zz" + behind);
            }
        }
    }

    private static void words() {
        String[] all = {"cave", "drops", "pair", "gap", "chalk", "lead", "dry", "grows", "falls", "met", "gaps", "widest",
            "if", "then", "else", "end", "not", "and", "or", "stone", "a", "z", "mets", "me", "dr"};
        List<String> sums = List.of("met", "dry", "pair", "chalk", "drops", "gap");
        List<String> truths = List.of("met", "dry", "gaps", "widest");
        for (String word : all) {
            boolean opens = word.equals("if");
            if (sums.contains(word)) {
                due.whole(2, CAVE + "grows:" + word + ";");
                due.whole(2, CAVE + "grows:if " + word + "=1 then " + word + " else(" + word + ")*" + word + " end;");
            } else {
                due.fault(2, CAVE.length() + 6 + (opens ? word.length() : 0), CAVE + "grows:" + word + ";");
                due.fault(2, CAVE.length() + 8 + (opens ? word.length() : 0), CAVE + "grows:1+" + word + ";");
            }
            if (truths.contains(word)) {
                due.whole(2, CAVE + "falls:" + word + "=" + word + ";");
            } else {
                boolean told = opens || word.equals("not");
                due.fault(2, CAVE.length() + 6 + (told ? word.length() : 0), CAVE + "falls:" + word + ";");
                due.fault(2, CAVE.length() + 8 + (opens ? word.length() : 0), CAVE + "falls:1=" + word + ";");
            }
        }
    }

    // ---- within one another

    /** The signs: n not, [ bracket, ( parenthesis, i t e an if: in its truth, its then, its else. */
    private static String truth(String levels, String inmost) {
        if (levels.isEmpty()) {
            return inmost + "=1";
        }
        String rest = levels.substring(1);
        switch (levels.charAt(0)) {
            case 'n':
                return "not " + truth(rest, inmost);
            case '[':
                return "[" + truth(rest, inmost) + "]";
            default:
                return sum(levels, inmost) + "=1";
        }
    }

    private static String sum(String levels, String inmost) {
        if (levels.isEmpty()) {
            return inmost;
        }
        String rest = levels.substring(1);
        switch (levels.charAt(0)) {
            case '(':
                return "(" + sum(rest, inmost) + ")";
            case 'i':
                return "if " + truth(rest, inmost) + " then 1 else 1 end";
            case 't':
                return "if 1=1 then " + sum(rest, inmost) + " else 1 end";
            default:
                return "if 1=1 then 1 else " + sum(rest, inmost) + " end";
        }
    }

    /** Whether each not and [ stands where a truth can. */
    private static boolean canBe(String levels, boolean truthFirst) {
        boolean truth = truthFirst;
        for (char c : levels.toCharArray()) {
            if (!truth && (c == 'n' || c == '[')) {
                return false;
            }
            truth = c == 'n' || c == '[' || c == 'i';
        }
        return true;
    }

    private static void depths() {
        String kinds = "n[(ite";
        int tried = 0;
        for (int code = 0; code < 279936; code += 41) {
            StringBuilder seven = new StringBuilder();
            for (int rest = code, k = 0; k < 7; k++, rest /= 6) {
                seven.append(kinds.charAt(rest % 6));
            }
            String levels = seven.toString();
            if (canBe(levels, true)) {
                depth(CAVE + "falls:", truth(levels.substring(0, 6), "1"), truth(levels, "1"), levels, truth(levels, "^"));
                tried++;
            }
            if (canBe(levels, false)) {
                depth(CAVE + "grows:", sum(levels.substring(0, 6), "1"), sum(levels, "1"), levels, sum(levels, "^"));
                tried++;
            }
        }
        due.is("nests that were tried", tried > 300 ? 1 : 0, 1);
        for (String one : new String[] {"n", "[", "(", "i", "t", "e"}) {
            String seven = one.repeat(7);
            depth(CAVE + "falls:", truth(one.repeat(6), "1"), truth(seven, "1"), seven, truth(seven, "^"));
        }
        for (String one : new String[] {"(", "i", "t", "e"}) {
            String seven = one.repeat(7);
            depth(CAVE + "grows:", sum(one.repeat(6), "1"), sum(seven, "1"), seven, sum(seven, "^"));
        }
        // Far too deep, as far as a text goes.
        due.fault(4, 25, filled(CAVE + "grows:", BYTES, '('));
        due.fault(4, 25, filled(CAVE + "falls:", BYTES, '('));
        due.fault(4, 25, filled(CAVE + "falls:", BYTES, '['));
        due.fault(4, 43, filled(CAVE + "falls:" + "not ".repeat(200), BYTES, ' '));
        due.fault(4, 37, CAVE + "grows:" + "if ".repeat(200));
    }

    private static void depth(String ahead, String six, String seven, String levels, String marked) {
        due.whole(2, ahead + six + ";");
        // The seventh is the last opening sign ahead of the inmost number.
        String opening = marked.substring(0, marked.indexOf('^'));
        String[] words = {"not ", "[", "(", "if ", "if 1=1 then ", "if 1=1 then 1 else "};
        String last = words["n[(ite".indexOf(levels.charAt(6))];
        due.fault(4, ahead.length() + opening.length() - last.length(), ahead + seven + ";");
    }

    /** Beside one another there can be as many as the text has room for. */
    private static void besides() {
        due.whole(2, CAVE + "grows:(1)" + "+(1)".repeat(200) + ";");
        due.whole(2, CAVE + "grows:(1)" + "*(1)".repeat(200) + ";");
        due.whole(2, CAVE + "falls:not 1=1" + " or not 1=1".repeat(75) + ";");
        due.whole(2, CAVE + "falls:[1=1]" + "and[1=1]".repeat(100) + ";");
        due.whole(2, CAVE + "grows:if 1=1 then 1 else 1 end" + "-if 1=1 then 1 else 1 end".repeat(30) + ";");
        due.whole(2, CAVE + "grows:((((((1))))))-((((((1))))))*((((((1))))));");
        due.whole(2, CAVE + "falls:not not not not not not 1=1 and not not not not not not 1=1 or[[[[[[1=1]]]]]];");
        due.whole(2, CAVE + "grows:(((((if 1=1 then 1 else 1 end)))));");
        due.faultAt(4, CAVE + "grows:(((((if ^(1)=1 then 1 else 1 end)))));");
        due.faultAt(4, CAVE + "grows:((((((1))))))-((((((^(1)))))));");
        due.faultAt(4, CAVE + "falls:[[[[[[1=1]]]]]]and not not not not not not ^not 1=1;");
        due.faultAt(4, CAVE + "falls:[[[[[[1=1 and ^[1=1]]]]]]];");
        due.faultAt(4, CAVE + "falls:[[[[[[1=1]and not ^[1=1]]]]]];");
    }

    // ---- chains

    private static void chains() {
        for (int ones = 0; ones <= 400; ones += 25) {
            String law = "pair gap 5;grows:" + "1+".repeat(ones) + "5-" + ones + ";";
            due.is(law, due.whole(3, CAVE + law).grown(0, 0, 0), 5);
        }
        due.is("1 chalk by 1", due.whole(2, CAVE + "pair gap 5" + " chalk 7".repeat(100) + " chalk 2;").pair(0, 1), 2);
        due.is("times", due.whole(3, CAVE + "pair gap 5;grows:3" + "*1".repeat(400) + ";").grown(0, 0, 0), 3);
        due.is("to the left", due.whole(3, CAVE + "pair gap 5;grows:9-3-2-1;").grown(0, 0, 0), 3);
        due.is("or behind and", due.whole(3, CAVE + "pair gap 5;grows:if 1=1 or 1=1 and 1=2 then 3 else 4 end;").grown(0, 0, 0), 3);
        due.is("or behind and", due.whole(3, CAVE + "pair gap 5;grows:if 1=2 and 1=1 or 1=1 then 3 else 4 end;").grown(0, 0, 0), 3);
        due.is("not of one", due.whole(3, CAVE + "pair gap 5;grows:if not 1=1 or 1=1 then 3 else 4 end;").grown(0, 0, 0), 3);
        due.is("times first", due.whole(3, CAVE + "pair gap 5;grows:9-2*3;").grown(0, 0, 0), 3);
        // At each level as much is left open as can be: or, and, a sum to be compared, plus, times.
        String held = "1=2 or 1=1 and 3=1+1*";
        StringBuilder deep = new StringBuilder("2");
        for (int level = 0; level < 6; level++) {
            deep.insert(0, "if " + held).append(" then 2 else 5 end");
        }
        due.is("all left open", due.whole(3, CAVE + "pair gap 5;grows:1+1*" + deep + ";").grown(0, 0, 0), 3);
        due.is("all left open", due.whole(3, CAVE + "pair gap 5;falls:" + held + deep + ";").falls(), 1);
    }

    // ---- of one token the least kind, of all faults the first along the text

    private static void leastKinds() {
        String six = CAVE + "grows:((((((";
        due.faultAt(2, six + "1^(");
        due.faultAt(2, six + "^[1=1");
        due.faultAt(2, six + "^not 1");
        due.faultAt(4, six + "^if 1=1");
        due.faultAt(4, six + "^((((");
        due.faultAt(1, six + "^#");
        due.faultAt(1, six + "^1111");
        due.faultAt(2, CAVE + "falls:[[[[[[1=1^[1=1");
        due.faultAt(2, CAVE + "falls:[[[[[[1=1 ^not 1=1");
        due.faultAt(2, CAVE + "falls:[[[[[[1=1 ^if 1=1");
        String four = CAVE + "pair gap 1;".repeat(4);
        due.faultAt(2, four + "lead 2 0 0 0;^pair");
        due.faultAt(2, four + "^gap 99;");
        due.faultAt(2, four + "lead 2 0 0 0 ^99;");
        due.faultAt(1, four + "lead 2 0 0 ^1000;");
        due.faultAt(3, CAVE + "pair gap ^10;#");
        due.faultAt(3, CAVE + "dry ^11 pair");
        due.faultAt(2, CAVE + "dry 1 ^pair gap 10;#");
        due.faultAt(4, four + "^pair gap 10;#");
        due.faultAt(4, six + "^(#");
        due.faultAt(1, CAVE + "^#pair gap 10;");
    }
}
