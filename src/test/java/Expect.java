import java.util.NoSuchElementException;

/** Counts and prints the answers that are not the ones due. */
final class Expect {
    private int wrong;
    private int asked;

    int asked() {
        return asked;
    }

    void same(String what, long got, long due) {
        asked++;
        if (got != due) {
            wrong++;
            System.out.println(what + " answered " + got + ", due is " + due);
        }
    }

    void yes(String what, boolean got) {
        same(what, got ? 1 : 0, 1);
    }

    void no(String what, boolean got) {
        same(what, got ? 1 : 0, 0);
    }

    /** The call answered NONE and its trouble is as told. */
    void refused(String what, ShingledDisk x, long got, int trouble) {
        same(what, got, ShingledDisk.NONE);
        same(what + ", trouble()", x.trouble(), trouble);
    }

    /** The call answered what is due, unrefused. */
    void told(String what, ShingledDisk x, long got, long due) {
        same(what, got, due);
        same(what + ", trouble()", x.trouble(), 0);
    }

    void ledThrows(String what, ShingledDisk x, int i) {
        asked++;
        try {
            int got = x.led(i);
            wrong++;
            System.out.println(what + " answered " + got + ", due is NoSuchElementException");
        } catch (NoSuchElementException e) {
            return;
        }
    }

    void end(String test) {
        System.out.println(test + ": " + asked + " answers, " + wrong + " not as due");
        if (wrong != 0) {
            System.exit(1);
        }
    }

    /** Feeds a text, blanks behind it up to the next twenty bytes. */
    static void feed(ShingledDisk x, String text) {
        for (int from = 0; from < text.length(); from += 20) {
            int[] numbers = new int[5];
            for (int i = 0; i < 20; i++) {
                int sign = from + i < text.length() ? text.charAt(from + i) : ' ';
                numbers[i / 4] = numbers[i / 4] << 8 | sign;
            }
            x.feed(numbers[0], numbers[1], numbers[2], numbers[3], numbers[4]);
        }
    }

    static int tell(ShingledDisk x, String text) {
        feed(x, text);
        return x.disk(text.length());
    }

    static ShingledDisk diskOf(String text) {
        ShingledDisk x = new ShingledDisk();
        tell(x, text);
        return x;
    }
}
