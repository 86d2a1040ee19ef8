import java.util.ArrayList;
import java.util.List;
import java.util.Random;

/** Draws texts of caves: whole ones, and ones that are spoilt somewhere. */
final class CaveText {
    private static final String[] TOKENS = {
        "cave", "drops", "pair", "gap", "chalk", "lead", "dry", "grows", "falls", "met", "gaps", "widest", "if", "then",
        "else", "end", "not", "and", "or", ";", ":", "+", "-", "*", "(", ")", "[", "]", "=", "<", ">", "0", "1", "2",
        "9", "10", "99", "999", "1000", "00000", "stone", "Gap", "#", "\t", "\u00e9", "\u0000",
    };

    private final Random random;
    private final int pairs;
    private final List<String> tokens = new ArrayList<>();

    CaveText(Random random, int pairs) {
        this.random = random;
        this.pairs = pairs;
    }

    String whole() {
        for (int tries = 0; tries < 20; tries++) {
            tokens.clear();
            tellAll();
            String text = joined();
            if (text.length() <= 880) {
                return text;
            }
        }
        return "cave drops 1;";
    }

    String spoilt() {
        whole();
        for (int times = 1 + random.nextInt(2); times > 0; times--) {
            int i = random.nextInt(tokens.size());
            String other = TOKENS[random.nextInt(TOKENS.length)];
            switch (random.nextInt(6)) {
                case 0 -> tokens.remove(i);
                case 1 -> swapNumber(i);
                case 2 -> tokens.add(i, other);
                case 3 -> tokens.add(i, tokens.get(random.nextInt(tokens.size())));
                case 4 -> tokens.subList(i, tokens.size()).clear();
                default -> tokens.set(i, other);
            }
            if (tokens.isEmpty()) {
                tokens.add(other);
            }
        }
        String text = joined();
        return text.length() > 880 ? text.substring(0, 880) : text;
    }

    /** Another number in place of the next one, so that bounds are gone over. */
    private void swapNumber(int from) {
        for (int i = from; i < tokens.size(); i++) {
            if (Character.isDigit(tokens.get(i).charAt(0))) {
                tokens.set(i, "" + random.nextInt(12));
                return;
            }
        }
    }

    private String joined() {
        StringBuilder text = new StringBuilder();
        for (String token : tokens) {
            boolean wordly = text.length() > 0 && Character.isLetterOrDigit(text.charAt(text.length() - 1));
            if (wordly && Character.isLetterOrDigit(token.charAt(0)) || random.nextInt(6) == 0) {
                text.append(random.nextInt(9) == 0 ? "\n" : " ");
            }
            text.append(token);
        }
        return text.append(random.nextInt(9) == 0 ? "  " : "").toString();
    }

    private void put(String words) {
        for (String word : words.split(" ")) {
            tokens.add(word);
        }
    }

    private void tellAll() {
        int drops = random.nextInt(5);
        put("cave drops " + drops + " ;");
        int gap = 1 + random.nextInt(pairs > 3 ? 4 : pairs > 2 ? 6 : 9);
        int told = 0;
        while (told < pairs) {
            if (random.nextInt(4) == 0) {
                tellLaw();
            }
            put("pair gap " + random.nextInt(gap + 1));
            for (int i = random.nextInt(3); i > 0; i--) {
                put("chalk " + random.nextInt(10));
            }
            put(";");
            told++;
        }
        for (int i = pairs == 0 ? 0 : random.nextInt(3); i > 0; i--) {
            tellLead(drops);
        }
        for (int i = random.nextInt(4); i > 0; i--) {
            tellLaw();
        }
    }

    private void tellLead(int drops) {
        put("lead");
        int left = drops;
        for (int p = 0; p < pairs; p++) {
            int n = p == pairs - 1 ? left : random.nextInt(left + 1);
            put("" + n);
            left -= n;
        }
        put(";");
    }

    private void tellLaw() {
        boolean gentle = random.nextInt(5) < 3;
        switch (random.nextInt(4)) {
            case 0 -> put("dry " + random.nextInt(11) + " ;");
            case 1 -> {
                put("falls :");
                if (gentle) {
                    put(gentleFall());
                } else {
                    truth(0, false);
                }
                put(";");
            }
            default -> {
                put("grows :");
                if (gentle) {
                    put(gentleGrowth());
                } else {
                    sum(0, true);
                }
                put(";");
            }
        }
    }

    /** Laws drawn blindly mostly end all in a year or never; these take their time. */
    private String gentleGrowth() {
        int n = random.nextInt(5);
        int m = random.nextInt(3);
        String[] laws = {
            "drops * " + (1 + m) + " - dry", "drops - " + m, "if dry = 1 then 0 else drops * chalk end",
            "if drops > " + m + " then 1 else 0 end", "if met > " + m + " then drops else 1 end - dry * " + m,
            "if gap > " + n + " then drops else drops - 1 end", "( drops + " + m + " ) * ( chalk - dry ) - " + n,
            "if gap = 9 then " + (n + 1) + " else 0 - 1 end", "if drops = " + n + " then 1 - dry else 0 - dry end",
            "if [ dry = 1 and not met = 0 ] or pair = " + m + " then drops * 2 else drops end - " + m,
            "if gap < " + (n + 2) + " and drops > 0 then 1 else if drops = 0 then 0 - 1 else 2 - dry end end",
        };
        return laws[random.nextInt(laws.length)];
    }

    private String gentleFall() {
        int n = random.nextInt(10);
        int m = random.nextInt(3);
        String[] laws = {
            "gaps < " + n, "widest > " + (4 + n / 2), "met = " + (m + 1), "dry = 1 and met > " + m,
            "gaps = " + n + " or widest = " + (9 - n), "widest < " + (1 + m), "not [ gaps > " + n + " ] and dry = 0",
            "gaps - widest * 2 > " + m, "met = " + m + " and widest = " + n,
        };
        return laws[random.nextInt(laws.length)];
    }

    private void sum(int depth, boolean growth) {
        term(depth, growth);
        for (int i = random.nextInt(3); i > 0; i--) {
            put(random.nextBoolean() ? "+" : "-");
            term(depth, growth);
        }
    }

    private void term(int depth, boolean growth) {
        atom(depth, growth);
        for (int i = random.nextInt(4) / 2; i > 0; i--) {
            put("*");
            atom(depth, growth);
        }
    }

    private void atom(int depth, boolean growth) {
        int kind = random.nextInt(depth < 6 ? 10 : 8);
        if (kind < 3) {
            put("" + (random.nextInt(12) == 0 ? 999 : random.nextInt(5)));
        } else if (kind < 8) {
            String[] words = growth
                    ? new String[] {"met", "dry", "pair", "chalk", "drops", "drops", "gap"}
                    : new String[] {"met", "dry", "gaps", "widest"};
            put(words[random.nextInt(words.length)]);
        } else if (kind < 9) {
            put("(");
            sum(depth + 1, growth);
            put(")");
        } else {
            put("if");
            truth(depth + 1, growth);
            put("then");
            sum(depth + 1, growth);
            put("else");
            sum(depth + 1, growth);
            put("end");
        }
    }

    private void truth(int depth, boolean growth) {
        unit(depth, growth);
        for (int i = random.nextInt(4) / 2; i > 0; i--) {
            put(random.nextBoolean() ? "and" : "or");
            unit(depth, growth);
        }
    }

    private void unit(int depth, boolean growth) {
        int kind = random.nextInt(depth < 6 ? 8 : 6);
        if (kind < 6) {
            sum(depth, growth);
            put(new String[] {"=", "<", ">"}[random.nextInt(3)]);
            sum(depth, growth);
        } else if (kind == 6) {
            put("not");
            unit(depth + 1, growth);
        } else {
            put("[");
            truth(depth + 1, growth);
            put("]");
        }
    }
}
