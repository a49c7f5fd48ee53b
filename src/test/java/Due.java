/** What the project's tests share: compares answers with those that are due, and tells texts. */
final class Due {
    /** Stands for an IllegalStateException; no call answers it. */
    static final int THROWS = -99;

    private int wrong = 0;
    private int seen = 0;

    void same(String call, long got, long want) {
        seen++;
        if (got != want) {
            wrong++;
            System.out.println(call + " answered " + got + ", due is " + want);
        }
    }

    void same(String call, String got, String want) {
        seen++;
        if (!got.equals(want)) {
            wrong++;
            System.out.println(call + " answered\n" + got + "due is\n" + want);
        }
    }

    /** A text is WRONG where a `^` stands in it (the mark itself is not told), for read() and merge(). */
    void wrong(String marked) {
        int place = marked.indexOf('^');
        wrong(marked.substring(0, place) + marked.substring(place + 1), place);
    }

    void wrong(String text, int place) {
        FindingAid x = new FindingAid();
        same("read() of " + text, read(x, text), THROWS);
        same("place() of " + text, x.place(), place);
        FindingAid y = new FindingAid();
        same("merge() of " + text, merge(y, text), THROWS);
        same("place() of merged " + text, y.place(), place);
    }

    /** A text is right, and has as many levels as lines. */
    FindingAid right(String text) {
        FindingAid x = new FindingAid();
        long lines = text.chars().filter(c -> c == '\n').count();
        same("read() of " + text, read(x, text), lines);
        same("place() of " + text, x.place(), -1);
        FindingAid y = new FindingAid();
        same("merge() of " + text, merge(y, text), 0);
        same("place() of merged " + text, y.place(), -1);
        return x;
    }

    void end() {
        if (wrong != 0 || seen == 0) {
            System.out.println(wrong + " of " + seen + " answers are not as due");
            System.exit(1);
        }
    }

    static void tell(FindingAid x, String text) {
        for (int k = 0; k < text.length(); k++) {
            x.sign(text.charAt(k));
        }
    }

    static int read(FindingAid x, String text) {
        tell(x, text);
        try {
            return x.read();
        } catch (IllegalStateException e) {
            return THROWS;
        }
    }

    static int merge(FindingAid x, String text) {
        tell(x, text);
        try {
            return x.merge();
        } catch (IllegalStateException e) {
            return THROWS;
        }
    }

    static FindingAid of(String text) {
        FindingAid x = new FindingAid();
        if (read(x, text) == THROWS) {
            throw new IllegalArgumentException("wrong at " + x.place() + ": " + text);
        }
        return x;
    }

    static String title(FindingAid x, int i) {
        StringBuilder title = new StringBuilder();
        for (int k = 0; x.letter(i, k) != FindingAid.NONE; k++) {
            title.append((char) x.letter(i, k));
        }
        return title.toString();
    }

    /** Prints, and reads the print off sign by sign, looking that it ends where print() says. */
    static String printed(FindingAid x) {
        int length = x.print();
        return x.at(length) == FindingAid.NONE ? latest(x, length) : "more than was said\n";
    }

    static String latest(FindingAid x, int length) {
        StringBuilder text = new StringBuilder();
        for (int k = 0; k < length; k++) {
            text.append((char) x.at(k));
        }
        return text.toString();
    }
}
