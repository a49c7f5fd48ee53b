/** The terms TEXT, LINE and WRONG: at each place of a line, which of the 256 signs fit there. */
public final class EdgeSignsTest {
    private static final String DIGITS = "0123456789";
    private static final String NOT_ZERO = "123456789";
    private static final String LETTERS = "abcdefghijklmnopqrstuvwxyz";
    private static final String KINDS = "fsui";
    private static final Due DUE = new Due();

    public static void main(String[] args) {
        startOfALine();
        kindUnderAKind();
        number();
        title();
        date();
        extent();
        endOfTheText();
        DUE.end();
    }

    /** A sign that does not fit is WRONG itself; behind one that does more is wanted, but for a line's end. */
    private static void only(String before, String fitting) {
        for (char c = 0; c < 256; c++) {
            FindingAid x = new FindingAid();
            int answer = Due.read(x, before + c);
            String call = "sign " + (int) c + " behind " + before;
            boolean fits = fitting.indexOf(c) >= 0;
            boolean ends = fits && c == '\n';
            DUE.same(call, answer == Due.THROWS ? 1 : 0, ends ? 0 : 1);
            DUE.same(call + ", place()", x.place(), ends ? -1 : before.length() + (fits ? 1 : 0));
        }
    }

    private static void startOfALine() {
        only("", KINDS);
        only("f1 a\n", "+");
        only("f1 a\n+", KINDS);
        only("f1 a\n+f1 a\n", "+");
        only("f1 a\n+f1 a\n+", "+" + KINDS);
        only("f1 a\n+f1 a\n++", KINDS);
        only(ReadTest.deep(7) + "+++++++", "+" + KINDS);
        only(ReadTest.deep(7) + "++++++++", KINDS);
        only(ReadTest.deep(8) + "+++++++", "+" + KINDS);
        only(ReadTest.deep(8) + "++++++++", KINDS);
        only("f1 a\n" + "+i1 a\n".repeat(98), "+");
        only("f1 a\n" + "+i1 a\n".repeat(99), "");
    }

    private static void kindUnderAKind() {
        only("f1 a\n+", "fsui");
        only("s1 a\n+", "sui");
        only("u1 a\n+", "ui");
        only("i1 a\n+", "");
        // right under one that is not the line before
        only("f1 a\n+f1 a\n++i1 a\n+++", "");
        only("f1 a\n+f1 a\n++i1 a\n++", "+fsui");
        only("f1 a\n+u1 a\n++i1 a\n++", "+ui");
        only("f1 a\n+u1 a\n++i1 a\n+", "+fsui");
        only("f1 a\n+u1 a\n+f1 a\n++", "fsui");
    }

    private static void number() {
        only("f", NOT_ZERO);
        only("f1", DIGITS + " ");
        only("f10", DIGITS + " ");
        only("f100", DIGITS + " ");
        only("f1000", " ");
        only("f9999", " ");
        only("f1 a\n+i", NOT_ZERO);
    }

    private static void title() {
        only("f1 ", LETTERS);
        only("f1 a", LETTERS + " \n");
        only("f1 abcdefghijklmno", LETTERS + " \n");
        only("f1 abcdefghijklmnop", " \n");
        only("f1 d", LETTERS + " \n");
        only("f1 a ", "de");
    }

    private static void date() {
        for (String first : new String[] {"f1 a d", "f1 a d1900-"}) {
            only(first, DIGITS);
            only(first + "0", DIGITS);
            only(first + "9", DIGITS);
            only(first + "00", DIGITS);
            only(first + "99", DIGITS);
            only(first + "190", DIGITS);
            only(first + "299", DIGITS);
        }
        only("f1 a d1000", "-? \n");
        only("f1 a d2999", "-? \n");
        only("f1 a d1000-1000", "? \n");
        only("f1 a d1000-2999", "? \n");
        only("f1 a d1000?", " \n");
        only("f1 a d1000-1000?", " \n");
        only("f1 a d1000 ", "e");
        only("f1 a d1000? ", "e");
        only("f1 a d1000-1000? ", "e");
    }

    private static void extent() {
        for (String before : new String[] {"f1 a", "f1 a d1900", "f1 a d1900-1901", "f1 a d1900?"}) {
            only(before + " e", NOT_ZERO);
            only(before + " e1", DIGITS + "bmp");
            only(before + " e10", DIGITS + "bmp");
            only(before + " e100", DIGITS + "bmp");
            only(before + " e1000", "bmp");
            only(before + " e9999", "bmp");
            only(before + " e1b", "\n");
            only(before + " e1m", "\n");
            only(before + " e1p", "\n");
        }
    }

    /** A text that stops anywhere but behind a line is WRONG at its end, as more is wanted. */
    private static void endOfTheText() {
        String whole = "f1 a\n+s20 bc d1900\n++u300 d d1900-1901? e1b\n++i4000 e e9999p\n";
        DUE.wrong("", 0);
        for (int length = 1; length <= whole.length(); length++) {
            String text = whole.substring(0, length);
            if (text.endsWith("\n")) {
                DUE.right(text);
            } else {
                DUE.wrong(text, length);
            }
        }
    }
}
