/** What is full: signs, levels, letters, headings, moves, asks, sums, calls; and what has room again. */
public final class EdgeFullTest {
    private static final Due DUE = new Due();
    private static final String LINE = "+u1000 abcdefghijklmnop d1900-1901? e1000b\n";
    // 2972 signs, so that a line of 28 is the last that has room
    private static final String MANY = "f1 a\n" + LINE.repeat(69);
    private static final String LAST = "+u1 abcdefghijklmnop d1900?\n";

    public static void main(String[] args) {
        signs();
        signsOfALostEnd();
        roomAgain();
        levels();
        letters();
        headings();
        headingOfAllLevels();
        moves();
        asks();
        extents();
        calls();
        DUE.end();
    }

    /** The 3000th sign is kept, the 3001st lost. */
    private static void signs() {
        DUE.same("length", (MANY + LAST).length(), 3000);
        FindingAid x = new FindingAid();
        DUE.same("read() of 2999 signs", Due.read(x, MANY + LAST.replace("?", "")), 71);
        DUE.same("read() of 2999 signs and no end", Due.read(x, (MANY + LAST).substring(0, 2999)), Due.THROWS);
        DUE.same("place()", x.place(), 2999);
        DUE.same("read() of 3000 signs", Due.read(x, MANY + LAST), 71);
        DUE.same("place()", x.place(), -1);
        for (int more : new int[] {0, 10, '+', 'x', 255, -1, 256}) {
            Due.tell(x, MANY + LAST);
            x.sign(more);
            DUE.same("read() with sign 3001 a " + more, Due.read(x, ""), 71);
            DUE.same("level(70, 6)", x.level(70, 6), 1);
        }
        DUE.same("read() of twice as many", Due.read(x, MANY + LAST + MANY + LAST), 71);
        DUE.same("print() of it", x.print(), 3000);
        // the first sign that is wrong may be the 3000th
        DUE.same("read() with a wrong sign 3000", Due.read(x, MANY + LAST.replace("?\n", "?x")), Due.THROWS);
        DUE.same("place()", x.place(), 2999);
    }

    private static void signsOfALostEnd() {
        String open = MANY + "+u12 abcdefghijklmnop d1900?";
        DUE.same("length", open.length(), 3000);
        FindingAid x = Due.of("s5 here\n");
        DUE.same("read() whose end is lost", Due.read(x, open + "\n"), Due.THROWS);
        DUE.same("place()", x.place(), 3000);
        DUE.same("level(0, 1)", x.level(0, 1), 5);
        DUE.same("merge() whose end is lost", Due.merge(x, open + "\n"), Due.THROWS);
        DUE.same("place()", x.place(), 3000);
    }

    /** Signs that are gone leave their room, whether they were right or not. */
    private static void roomAgain() {
        FindingAid x = new FindingAid();
        String open = "x".repeat(3000);
        for (int n = 0; n < 3; n++) {
            DUE.same("read() of 3000 wrong signs", Due.read(x, open), Due.THROWS);
            DUE.same("read() of 3000 right signs", Due.read(x, MANY + LAST), 71);
            DUE.same("merge() of 3000 wrong signs", Due.merge(x, open), Due.THROWS);
            DUE.same("merge() of 3000 right signs", Due.merge(x, MANY + LAST), 0);
            DUE.same("read() of 3000 right signs", Due.read(x, MANY + LAST), 71);
            DUE.same("read() of none", Due.read(x, ""), Due.THROWS);
            DUE.same("place()", x.place(), 0);
        }
    }

    /** 100 levels; with the 101st the text is refused, and those before stay. */
    private static void levels() {
        String most = "f1 a\n" + "+u1 a\n".repeat(99);
        FindingAid x = new FindingAid();
        DUE.same("read() of 99", Due.read(x, most.substring(0, most.length() - 6)), 99);
        DUE.same("read() of 101", Due.read(x, most + "+u1 a\n"), Due.THROWS);
        DUE.same("place()", x.place(), most.length());
        DUE.same("level(98, 1), of before", x.level(98, 1), 1);
        DUE.same("level(99, 1), of before", x.level(99, 1), -1);
        DUE.same("read() of 100", Due.read(x, most), 100);
        DUE.same("level(99, 1)", x.level(99, 1), 1);
        DUE.same("level(100, 1)", x.level(100, 1), -1);
        DUE.same("merge() of 100", Due.merge(x, most.replace(" a", " b")), 100);
        DUE.same("merge() of 101", Due.merge(x, most.replace(" a", " c") + "+u1 a\n"), Due.THROWS);
        DUE.same("place()", x.place(), most.length());
        DUE.same("take(0), the asks stay", x.take(0), 1);
        DUE.same("letter(0, 0)", x.letter(0, 0), 'b');
    }

    /** 16 letters, in the neighbourhood of other long titles. */
    private static void letters() {
        FindingAid x = Due.of("f1 abcdefghijklmnop\n+s1 q\n+s2 zyxwvutsrqponmlk\n");
        String[] titles = {"abcdefghijklmnop", "q", "zyxwvutsrqponmlk"};
        for (int i = 0; i < 3; i++) {
            for (int k = -1; k <= 17; k++) {
                boolean there = k >= 0 && k < titles[i].length();
                DUE.same("letter(" + i + ", " + k + ")", x.letter(i, k), there ? titles[i].charAt(k) : -1);
            }
        }
        DUE.same("read() of 17 letters", Due.read(x, "f1 abcdefghijklmnopq\n"), Due.THROWS);
        DUE.same("place()", x.place(), 19);
        DUE.same("merge()", Due.merge(x, "f1 a\n+s1 abcdefghijklmnop\n"), 2);
        DUE.same("take(0)", x.take(0), 1);
        DUE.same("take(1)", x.take(1), 1);
        DUE.same("print()", Due.printed(x), "f1 a\n+s1 abcdefghijklmnop\n+s2 zyxwvutsrqponmlk\n");
    }

    /** Four of one level; a full level takes no room from others. */
    private static void headings() {
        FindingAid x = Due.of("f1 a\n+s1 b\n+s2 c\n");
        for (int i = 0; i < 3; i++) {
            for (int n = 1; n <= 4; n++) {
                DUE.same("name(" + i + ", " + n + ")", x.name(i, n), n);
            }
            for (int heading : new int[] {5, 998, 999}) {
                DUE.same("name(" + i + ", " + heading + "), the fifth", x.name(i, heading), -4);
                DUE.same("named(" + heading + ", 0)", x.named(heading, 0), -1);
            }
            for (int n = 1; n <= 4; n++) {
                DUE.same("name(" + i + ", " + n + ") again", x.name(i, n), -3);
                DUE.same("named(" + n + ", " + i + ")", x.named(n, i), i);
                DUE.same("named(" + n + ", " + (i + 1) + ")", x.named(n, i + 1), -1);
            }
        }
        Due.read(x, "f1 a\n+s1 b\n+s2 c\n");
        DUE.same("name(1, 5), read anew", x.name(1, 5), 1);
    }

    private static void headingOfAllLevels() {
        FindingAid x = Due.of("f1 a\n" + "+u1 a\n".repeat(99));
        for (int i = 99; i >= 0; i--) {
            DUE.same("name(" + i + ", 999)", x.name(i, 999), 1);
        }
        for (int j = 0; j < 100; j++) {
            DUE.same("named(999, " + j + ")", x.named(999, j), j);
        }
        DUE.same("named(999, 100)", x.named(999, 100), -1);
        DUE.same("named(999, -1)", x.named(999, -1), -1);
    }

    /** The first five are told; the sixth and all behind it are done, too. */
    private static void moves() {
        FindingAid x = Due.of("f1 a\n+s1 b\n+s2 c\n+s3 d\n+u4 e\n+u5 f\n");
        int[] unders = {1, 2, 3, 1, 2, 3, 1, 3, 2};
        int[] before = {0, 1, 2, 3, 1};
        for (int n = 0; n < unders.length; n++) {
            DUE.same("was(4, " + n + ") before move " + n, x.was(4, n), -1);
            DUE.same("move(4, " + unders[n] + ")", x.move(4, unders[n]), 1);
            DUE.same("level(4, 2)", x.level(4, 2), unders[n]);
            for (int j = 0; j <= unders.length; j++) {
                DUE.same("was(4, " + j + ") behind move " + n, x.was(4, j), j <= n && j < 5 ? before[j] : -1);
            }
        }
        DUE.same("was(3, 0), a neighbour", x.was(3, 0), -1);
        DUE.same("was(5, 0), a neighbour", x.was(5, 0), -1);
        DUE.same("was(4, -1)", x.was(4, -1), -1);
        DUE.same("move(5, 3)", x.move(5, 3), 1);
        DUE.same("was(5, 0)", x.was(5, 0), 0);
        DUE.same("was(4, 4)", x.was(4, 4), 1);
        Due.read(x, "f1 a\n+s1 b\n+s2 c\n+s3 d\n+u4 e\n+u5 f\n");
        DUE.same("was(4, 0), read anew", x.was(4, 0), -1);
        DUE.same("move(4, 3)", x.move(4, 3), 1);
        DUE.same("was(4, 0)", x.was(4, 0), 0);
        DUE.same("was(4, 1)", x.was(4, 1), -1);
    }

    private static void asks() {
        FindingAid x = Due.of("f1 a\n" + "+u1 a\n".repeat(99));
        DUE.same("merge() of 100 that differ", Due.merge(x, "f1 b\n" + "+u1 b e9m\n".repeat(99)), 100);
        for (int i = 0; i < 100; i++) {
            DUE.same("ask(" + i + ", 0), the first with that path", x.ask(i, 0), i == 0 ? 0 : 1);
            DUE.same("ask(" + i + ", 1)", x.ask(i, 1), i == 0 ? 1 : 5);
        }
        DUE.same("ask(100, 0)", x.ask(100, 0), -1);
        DUE.same("take(100)", x.take(100), -1);
        for (int i = 99; i >= 0; i--) {
            DUE.same("take(" + i + ")", x.take(i), 1);
            DUE.same("take(" + i + ") again", x.take(i), 0);
        }
        DUE.same("level(2, 7), not the first", x.level(2, 7), -1);
    }

    /** The largest sums that there are. */
    private static void extents() {
        FindingAid x = Due.of("f1 a e9999p\n" + "+u1 a e9999b\n".repeat(99));
        DUE.same("extent(0, 0)", x.extent(0, 0), 989901);
        DUE.same("extent(0, 1)", x.extent(0, 1), 0);
        DUE.same("extent(0, 2)", x.extent(0, 2), 9999);
        DUE.same("differ(0)", x.differ(0), -1);
        FindingAid y = Due.of("f1 a e9999b\n" + "+u1 a e9999b\n".repeat(99));
        DUE.same("extent(0, 0), its own", y.extent(0, 0), 9999);
        DUE.same("differ(0)", y.differ(0), 0);
        DUE.same("differ(1)", y.differ(1), -1);
        FindingAid z = Due.of("f1 a e99b\n" + "+u1 a e1b\n".repeat(99));
        DUE.same("differ(0), the sum is right", z.differ(0), -1);
    }

    /** An object is used for 512 calls: the last one is answered as any other. */
    private static void calls() {
        String text = "f1 a\n" + "+u10 abcde\n".repeat(46);
        DUE.same("length", text.length(), 511);
        DUE.same("read() as call 512", Due.read(new FindingAid(), text), 47);
        FindingAid x = Due.of("f1 a\n+u2 b\n");
        int made = 12;
        for (; made < 511; made++) {
            x.move(1, 0);
        }
        DUE.same("was(1, 4) as call 512", x.was(1, 4), 0);
    }
}
