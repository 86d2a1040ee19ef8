/** What the tests share: answers held against those that are due, texts put on the tape. */
final class Due {
    private int wrong = 0;
    private int asked = 0;

    void is(String call, long got, long want) {
        asked++;
        if (got != want) {
            wrong++;
            System.out.println(call + " answered " + got + ", due is " + want);
        }
    }

    /** A call, or some of them, on an object. */
    interface Call {
        long on(StoneMeet x);
    }

    /**
     * Tells a text that has a fault where the sign ^ stands (it is taken out) to an object that has
     * a cave already, of which all stays.
     */
    void faultAt(int kind, String marked) {
        int place = marked.indexOf('^');
        fault(kind, place, marked.substring(0, place) + marked.substring(place + 1));
    }

    void fault(int kind, int place, String text) {
        StoneMeet x = caveOf("cave drops 1;pair gap 7 chalk 3;dry 2;");
        x.year(0);
        String of = " of " + text;
        is("cave" + of, tell(x, text), -30 - kind);
        is("fault(0)" + of, x.fault(0), kind);
        is("fault(1)" + of, x.fault(1), place);
        int[] stays = {1, 1, 0, 6, 1, 0, 1, 1, 0, 3};
        for (int what = 0; what < stays.length; what++) {
            is("count(" + what + ") behind the fault" + of, x.count(what), stays[what]);
        }
    }

    /** Tells a text that has no fault to a new object, and answers that. */
    StoneMeet whole(int lines, String text) {
        StoneMeet x = new StoneMeet();
        is("cave of " + text, tell(x, text), lines);
        is("fault(0) of " + text, x.fault(0), 0);
        is("fault(1) of " + text, x.fault(1), -1);
        is("count(9) of " + text, x.count(9), lines);
        return x;
    }

    /** Ints just outside of bounds, and as far outside as can be. */
    static int[] outside(int least, int most) {
        return new int[] {Integer.MIN_VALUE, Integer.MIN_VALUE + 1, least - 2, least - 1,
            most + 1, most + 2, Integer.MAX_VALUE - 1, Integer.MAX_VALUE};
    }

    /** Ends the test: exit code 1 if an answer was wrong. */
    void end(String name) {
        System.out.println(name + ": " + asked + " answers, " + wrong + " wrong");
        if (wrong != 0) {
            System.exit(1);
        }
    }

    /** Puts a text on the tape, filled up with blanks to whole twenties: the latest answer of feed. */
    static int tape(StoneMeet x, String text) {
        int last = 0;
        for (int i = 0; i < text.length(); i += 20) {
            last = x.feed(four(text, i), four(text, i + 4), four(text, i + 8), four(text, i + 12), four(text, i + 16));
        }
        return last;
    }

    static int four(String text, int from) {
        int bytes = 0;
        for (int i = from; i < from + 4; i++) {
            bytes = bytes << 8 | (i < text.length() ? text.charAt(i) & 255 : ' ');
        }
        return bytes;
    }

    /** Tells a text to an object: the answer of cave. */
    static int tell(StoneMeet x, String text) {
        tape(x, text);
        return x.cave(text.length());
    }

    /** A new object with a cave. */
    static StoneMeet caveOf(String text) {
        StoneMeet x = new StoneMeet();
        int answer = tell(x, text);
        if (answer < 0) {
            System.out.println("a test's cave has a fault: " + text + ": " + answer + " at " + x.fault(1));
            System.exit(1);
        }
        return x;
    }

    /** A tray of sort 3 with numbers. */
    static void fill(StoneMeet x, int tray, long... numbers) {
        x.numbers(tray, 3, numbers.length);
        for (int i = 0; i < numbers.length; i++) {
            x.write(tray, i, numbers[i]);
        }
    }
}
