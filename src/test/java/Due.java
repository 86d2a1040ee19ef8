/** What the tests share: answers held against those that are due, texts put on the tape. */
final class Due {
    private int wrong = 0;
    private int asked = 0;

    void is(String call, long got, long want) {
        asked++;
        if (got != want) {
            wrong++;
            System.out.println(call + " answered " + got + ", due is " + want);
        }
    }

    /** Ends the test: exit code 1 if an answer was wrong. */
    void end(String name) {
        System.out.println(name + ": " + asked + " answers, " + wrong + " wrong");
        if (wrong != 0) {
            System.exit(1);
        }
    }

    /** Puts a text on the tape, filled up with blanks to whole twenties: the latest answer of feed. */
    static int tape(StoneMeet x, String text) {
        int last = 0;
        for (int i = 0; i < text.length(); i += 20) {
            last = x.feed(four(text, i), four(text, i + 4), four(text, i + 8), four(text, i + 12), four(text, i + 16));
        }
        return last;
    }

    static int four(String text, int from) {
        int bytes = 0;
        for (int i = from; i < from + 4; i++) {
            bytes = bytes << 8 | (i < text.length() ? text.charAt(i) & 255 : ' ');
        }
        return bytes;
    }

    /** Tells a text to an object: the answer of cave. */
    static int tell(StoneMeet x, String text) {
        tape(x, text);
        return x.cave(text.length());
    }

    /** A new object with a cave. */
    static StoneMeet caveOf(String text) {
        StoneMeet x = new StoneMeet();
        int answer = tell(x, text);
        if (answer < 0) {
            System.out.println("a test's cave has a fault: " + text + ": " + answer + " at " + x.fault(1));
            System.exit(1);
        }
        return x;
    }

    /** A tray of sort 3 with numbers. */
    static void fill(StoneMeet x, int tray, long... numbers) {
        x.numbers(tray, 3, numbers.length);
        for (int i = 0; i < numbers.length; i++) {
            x.write(tray, i, numbers[i]);
        }
    }
}
