/** The terms: every year, NUMBER and EXTENT, every length of a TITLE, every DEPTH, and the 100 levels. */
public final class EdgeNumbersTest {
    private static final Due DUE = new Due();

    public static void main(String[] args) {
        firstYears();
        lastYears();
        shortYears();
        numbers();
        extents();
        titles();
        depths();
        under();
        mostLevels();
        DUE.end();
    }

    private static String four(int n) {
        return String.format("%04d", n);
    }

    private static void holds(String text, int place) {
        FindingAid x = new FindingAid();
        DUE.same("read() of " + text, Due.read(x, text) == Due.THROWS ? 1 : 0, place < 0 ? 0 : 1);
        DUE.same("place() of " + text, x.place(), place);
    }

    /** 1000 .. 2999; another is WRONG at its first digit, whatever comes behind it. */
    private static void firstYears() {
        for (int year = 0; year <= 9999; year++) {
            boolean fits = year >= 1000 && year <= 2999;
            holds("f1 a d" + four(year) + "\n", fits ? -1 : 6);
            holds("f1 a d" + four(year) + "?x", fits ? 11 : 6);
            if (fits) {
                FindingAid x = Due.of("f1 a d" + four(year) + "\n");
                DUE.same("first of " + year, x.level(0, 4), year);
                DUE.same("last of " + year, x.level(0, 5), year);
            }
        }
    }

    /** Not below the first, not above 2999. */
    private static void lastYears() {
        for (int first : new int[] {1000, 1001, 1900, 2998, 2999}) {
            for (int year = 0; year <= 9999; year++) {
                boolean fits = year >= first && year <= 2999;
                holds("f1 a d" + first + "-" + four(year) + "\n", fits ? -1 : 11);
            }
        }
        FindingAid x = Due.of("f1 a d1000-2999\n");
        DUE.same("first year", x.level(0, 4), 1000);
        DUE.same("last year", x.level(0, 5), 2999);
    }

    /** A year of less than four digits, whatever these are: at the sign that is no digit. */
    private static void shortYears() {
        for (String before : new String[] {"f1 a d", "f1 a d2000-"}) {
            for (String behind : new String[] {"", "\n", " ", "-", "?", "/", ":", "a", "+"}) {
                holds(before + behind, before.length());
                for (int n = 0; n < 1000; n++) {
                    String three = four(n).substring(1);
                    holds(before + three + behind, before.length() + 3);
                    holds(before + three.substring(1) + behind, before.length() + 2);
                    holds(before + three.substring(2) + behind, before.length() + 1);
                }
            }
        }
    }

    private static void numbers() {
        for (int n = 1; n <= 9999; n++) {
            FindingAid x = Due.of("f" + n + " a\n");
            DUE.same("level(0, 1)", x.level(0, 1), n);
            DUE.same("print()", Due.printed(x), "f" + n + " a\n");
        }
        holds("f10000 a\n", 5);
        holds("f0 a\n", 1);
        holds("f0001 a\n", 1);
        holds("f-1 a\n", 1);
    }

    private static void extents() {
        for (int n = 1; n <= 9999; n++) {
            int unit = n % 3;
            FindingAid x = Due.of("f1 a e" + n + "bmp".charAt(unit) + "\n");
            DUE.same("level(0, 7)", x.level(0, 7), n);
            DUE.same("level(0, 8)", x.level(0, 8), unit);
            DUE.same("extent(0, " + unit + ")", x.extent(0, unit), n);
            DUE.same("extent in another unit", x.extent(0, (unit + 1) % 3), 0);
        }
        holds("f1 a e10000b\n", 10);
        holds("f1 a e0b\n", 6);
        holds("f1 a e0001b\n", 6);
        holds("f1 a e-1b\n", 6);
    }

    /** 1 to 16 letters. */
    private static void titles() {
        String letters = "zabcdefghijklmnop";
        holds("f1 \n", 3);
        for (int length = 1; length <= 16; length++) {
            FindingAid x = Due.of("f1 " + letters.substring(0, length) + "\n");
            DUE.same("level(0, 9)", x.level(0, 9), length);
            DUE.same("letter(0, last)", x.letter(0, length - 1), letters.charAt(length - 1));
            DUE.same("letter behind the last", x.letter(0, length), -1);
        }
        holds("f1 " + letters + "\n", 19);
        holds("f1 " + letters + " d1900\n", 19);
    }

    private static String line(int depth) {
        return "+".repeat(depth) + "f1 a\n";
    }

    /** 0 for the first line alone; at most one more than that of the line before; at most 8. */
    private static void depths() {
        for (int before = 0; before <= 8; before++) {
            String chain = ReadTest.deep(before);
            int start = chain.length();
            for (int depth = 0; depth <= 10; depth++) {
                int most = Math.min(8, before + 1);
                int place = depth == 0 ? start : depth <= most ? -1 : start + most;
                holds(chain + line(depth), place);
            }
        }
        for (int depth = 1; depth <= 9; depth++) {
            holds(line(depth), 0);
        }
    }

    /** Under the latest level before it of the next lower DEPTH. */
    private static void under() {
        int[] depths = {0, 1, 2, 3, 2, 1, 1, 2, 3, 3, 1, 2, 2, 3};
        int[] unders = {-1, 0, 1, 2, 1, 0, 0, 6, 7, 7, 0, 10, 10, 12};
        StringBuilder text = new StringBuilder();
        for (int depth : depths) {
            text.append(line(depth));
        }
        FindingAid x = DUE.right(text.toString());
        for (int i = 0; i < unders.length; i++) {
            DUE.same("level(" + i + ", 2)", x.level(i, 2), unders[i]);
            DUE.same("level(" + i + ", 3)", x.level(i, 3), depths[i]);
        }
        FindingAid deep = DUE.right(ReadTest.deep(8) + line(8) + line(1) + line(2));
        DUE.same("level(9, 2)", deep.level(9, 2), 7);
        DUE.same("level(10, 2)", deep.level(10, 2), 0);
        DUE.same("level(11, 2)", deep.level(11, 2), 10);
    }

    /** The 100th level is one; the 101st is WRONG at the first sign of its line. */
    private static void mostLevels() {
        String most = "f1 a\n" + "+s1 a\n".repeat(98);
        DUE.right(most);
        most += "+s1 a\n";
        DUE.right(most);
        for (String more : new String[] {"+s1 a\n", "++s1 a\n", "+++s1 a\n", "f1 a\n", "+", "x", "\n", " ", "+x1", "+s1 a d1"}) {
            DUE.wrong(most + more, most.length());
        }
        DUE.wrong(most + "+s1 a\n" + "+s1 a\n", most.length());
        // what is wrong before is told, not the level too many
        DUE.wrong(most.substring(0, most.length() - 2) + "\n+s1 a\n", most.length() - 2);
        DUE.wrong("f1 \n" + most, 3);
    }
}
