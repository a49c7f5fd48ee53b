/** Of each argument the last value that is allowed and the first that is not, on both sides, and far off. */
public final class EdgeArgumentsTest {
    private static final int[] FAR = {Integer.MIN_VALUE, Integer.MIN_VALUE + 1, -(1 << 28), -257, -256, 256, 257,
        65536, 1 << 28, (1 << 28) + 1, 1 << 30, (1 << 30) + 1, Integer.MAX_VALUE - 1, Integer.MAX_VALUE};
    private static final String TREE = "f1 ab d1900-1920? e5b\n+s2 c\n++u3 d\n+s2 f\n";
    private static final int LEVELS = 4;
    private static final Due DUE = new Due();

    private interface Check {
        void at(int value);
    }

    public static void main(String[] args) {
        signs();
        levelsAndLetters();
        compares();
        extents();
        lists();
        restrictions();
        nearestOfAll();
        headings();
        moves();
        published();
        asks();
        printed();
        DUE.end();
    }

    private static void sweep(int from, int to, Check check) {
        for (int value = from; value <= to; value++) {
            check.at(value);
        }
        for (int value : FAR) {
            if (value < from || value > to) {
                check.at(value);
            }
        }
    }

    private static boolean in(int value, int least, int most) {
        return value >= least && value <= most;
    }

    /** The lowest eight bits of a sign are the sign, whatever stands above them. */
    private static void signs() {
        sweep(-1030, 1030, c -> {
            int low = ((c % 256) + 256) % 256;
            FindingAid x = new FindingAid();
            Due.tell(x, "f1 ");
            x.sign(c);
            boolean letter = in(low, 'a', 'z');
            DUE.same("read() with sign " + c, Due.read(x, "\n"), letter ? 1 : Due.THROWS);
            DUE.same("place()", x.place(), letter ? -1 : 3);
            DUE.same("letter(0, 0)", x.letter(0, 0), letter ? low : -1);
        });
        for (int shift : FAR) {
            int high = shift & ~255;
            FindingAid x = new FindingAid();
            for (char c : TREE.toCharArray()) {
                x.sign(high | c);
            }
            DUE.same("read() with " + high + " above", Due.read(x, ""), LEVELS);
            DUE.same("print()", Due.printed(x), TREE);
        }
    }

    private static void levelsAndLetters() {
        FindingAid x = Due.of(TREE);
        int[] first = {0, 1, -1, 0, 1900, 1920, 1, 5, 0, 2};
        int[] last = {1, 2, 0, 1, -1, -1, 0, -1, -1, 1};
        sweep(-3, 13, what -> {
            DUE.same("level(0, " + what + ")", x.level(0, what), in(what, 0, 9) ? first[what] : -1);
            DUE.same("level(3, " + what + ")", x.level(3, what), in(what, 0, 9) ? last[what] : -1);
            DUE.same("level(4, " + what + ")", x.level(4, what), -1);
            DUE.same("level(-1, " + what + ")", x.level(-1, what), -1);
        });
        sweep(-2, 101, i -> {
            DUE.same("level(" + i + ", 3)", x.level(i, 3), in(i, 0, 3) ? new int[] {0, 1, 2, 1}[i] : -1);
            DUE.same("letter(" + i + ", 0)", x.letter(i, 0), in(i, 0, 3) ? "acdf".charAt(i) : -1);
        });
        sweep(-17, 33, k -> {
            DUE.same("letter(0, " + k + ")", x.letter(0, k), in(k, 0, 1) ? "ab".charAt(k) : -1);
            DUE.same("letter(1, " + k + ")", x.letter(1, k), k == 0 ? 'c' : -1);
        });
        FindingAid least = Due.of("f1 a d1000 e1p\n");
        int[] row = {0, 1, -1, 0, 1000, 1000, 0, 1, 2, 1};
        FindingAid most = Due.of("i9999 abcdefghijklmnop d2999? e9999m\n");
        int[] other = {3, 9999, -1, 0, 2999, 2999, 1, 9999, 1, 16};
        for (int what = 0; what < 10; what++) {
            DUE.same("level(0, " + what + ") of the least", least.level(0, what), row[what]);
            DUE.same("level(0, " + what + ") of the most", most.level(0, what), other[what]);
        }
    }

    /** RANGE, and not NONE, if either is none such. */
    private static void compares() {
        FindingAid x = Due.of(TREE);
        sweep(-2, 101, b -> {
            boolean there = in(b, 0, LEVELS - 1);
            DUE.same("compare(0, " + b + ")", x.compare(0, b), there ? (b == 0 ? 0 : -1) : -2);
            DUE.same("compare(" + b + ", 0)", x.compare(b, 0), there ? (b == 0 ? 0 : 1) : -2);
            DUE.same("compare(3, " + b + ")", x.compare(3, b), there ? (b == 0 ? 1 : 0) : -2);
            DUE.same("compare(4, " + b + ")", x.compare(4, b), -2);
            DUE.same("compare(" + b + ", -1)", x.compare(b, -1), -2);
        });
    }

    private static void extents() {
        FindingAid x = Due.of("f1 a\n+s1 b e1b\n+s2 c e9999m\n+s3 d\n");
        sweep(-2, 5, unit -> {
            int sum = unit == 0 ? 1 : unit == 1 ? 9999 : 0;
            DUE.same("extent(0, " + unit + ")", x.extent(0, unit), in(unit, 0, 2) ? sum : -2);
            DUE.same("extent(3, " + unit + ")", x.extent(3, unit), in(unit, 0, 2) ? 0 : -2);
            DUE.same("extent(4, " + unit + ")", x.extent(4, unit), -1);
            DUE.same("extent(-1, " + unit + ")", x.extent(-1, unit), -1);
        });
        sweep(-2, 101, i -> DUE.same("extent(" + i + ", 2)", x.extent(i, 2), in(i, 0, 3) ? 0 : -1));
    }

    /** differ, twice and named count from 0 on; each is NONE where its list has ended. */
    private static void lists() {
        FindingAid x = Due.of("f1 a e1b\n+s1 b e3b\n++u1 c e2b\n++u1 d\n+s1 e e9b\n++u9 f e8b\n++u9 g\n");
        int[] differ = {0, 1, 4};
        int[] twice = {3, 4, 6};
        int[] named = {0, 2, 6};
        for (int i : named) {
            x.name(i, 7);
        }
        sweep(-2, 101, j -> {
            DUE.same("differ(" + j + ")", x.differ(j), in(j, 0, 2) ? differ[j] : -1);
            DUE.same("twice(" + j + ")", x.twice(j), in(j, 0, 2) ? twice[j] : -1);
            DUE.same("named(7, " + j + ")", x.named(7, j), in(j, 0, 2) ? named[j] : -1);
            DUE.same("named(8, " + j + ")", x.named(8, j), -1);
        });
        // own extents one above, at, and one below the sum; and no sum at all
        for (int own = 1; own <= 5; own++) {
            FindingAid y = Due.of("f1 a e" + own + "m\n+s1 b e1m\n+s2 c\n++u1 d e2m\n");
            DUE.same("differ(0) of " + own + " and 3", y.differ(0), own == 3 ? -1 : 0);
            FindingAid z = Due.of("f1 a e" + own + "m\n+s1 b e1p\n+s2 c\n++u1 d e2b\n");
            DUE.same("differ(0) of " + own + " and none", z.differ(0), -1);
        }
    }

    /** KINDS 0 .. 3, reasons 1 .. 99, and 0 for none any more. */
    private static void restrictions() {
        sweep(-2, 5, kind -> sweep(-2, 102, reason -> {
            FindingAid x = Due.of(TREE);
            for (int k = 0; k < 4; k++) {
                x.restrict(2, k, 50 + k);
            }
            boolean fits = in(kind, 0, 3) && in(reason, 0, 99);
            String call = "restrict(2, " + kind + ", " + reason + ")";
            DUE.same(call, x.restrict(2, kind, reason), fits ? 1 : -2);
            for (int k = 0; k < 4; k++) {
                DUE.same("restricted(2, " + k + ") behind " + call, x.restricted(2, k), fits && k == kind ? reason : 50 + k);
            }
            if (!in(kind, 0, 3)) {
                DUE.same("restricted(2, " + kind + ")", x.restricted(2, kind), -2);
                DUE.same("restricted(4, " + kind + ")", x.restricted(4, kind), -1);
            }
            DUE.same("restricted(1, 0), above it", x.restricted(1, 0), 0);
            DUE.same("restricted(3, 0), beside it", x.restricted(3, 0), 0);
            DUE.same("restrict(4, " + kind + ", " + reason + ")", x.restrict(4, kind, reason), -1);
        }));
    }

    /** On a way from depth 0 to 8, of two that cover a level the nearest counts, and covers itself. */
    private static void nearestOfAll() {
        for (int high = 0; high <= 8; high++) {
            for (int low = high + 1; low <= 8; low++) {
                FindingAid x = Due.of(ReadTest.deep(8));
                x.restrict(low, 3, 99);
                x.restrict(high, 3, 1);
                for (int i = 0; i <= 8; i++) {
                    DUE.same("restricted(" + i + ", 3)", x.restricted(i, 3), i >= low ? 99 : i >= high ? 1 : 0);
                    DUE.same("restricted(" + i + ", 2)", x.restricted(i, 2), 0);
                }
                x.restrict(low, 3, 0);
                DUE.same("restricted(8, 3), the other is gone", x.restricted(8, 3), 1);
                x.restrict(high, 3, 0);
                DUE.same("restricted(8, 3), both are gone", x.restricted(8, 3), 0);
            }
        }
    }

    /** 1 .. 999, each of which can be linked and is found. */
    private static void headings() {
        sweep(-3, 1003, heading -> {
            FindingAid x = Due.of(TREE);
            boolean fits = in(heading, 1, 999);
            DUE.same("name(3, " + heading + ")", x.name(3, heading), fits ? 1 : -2);
            DUE.same("name(3, " + heading + ") again", x.name(3, heading), fits ? -3 : -2);
            DUE.same("named(" + heading + ", 0)", x.named(heading, 0), fits ? 3 : -1);
            DUE.same("named(" + heading + ", 1)", x.named(heading, 1), -1);
            DUE.same("named(" + heading + ", -1)", x.named(heading, -1), -1);
            DUE.same("name(0, 500)", x.name(0, 500), 1);
            DUE.same("name(4, " + heading + ")", x.name(4, heading), -1);
        });
    }

    private static void moves() {
        sweep(-2, 101, other -> {
            boolean there = in(other, 0, LEVELS - 1);
            // of the four, 0 is the top, 1 and 3 are s under it, 2 is a u under 1
            int[] from = {-3, -3, 1, 1};
            DUE.same("move(" + other + ", 1)", Due.of(TREE).move(other, 1), there ? from[other] : -1);
            int[] to = {1, 1, -3, -3};
            DUE.same("move(3, " + other + ")", Due.of(TREE).move(3, other), there ? to[other] : -1);
            DUE.same("move(0, " + other + ")", Due.of(TREE).move(0, other), there ? -3 : -1);
            DUE.same("move(" + other + ", 4)", Due.of(TREE).move(other, 4), -1);
            FindingAid x = Due.of(TREE);
            x.move(2, 3);
            DUE.same("was(" + other + ", 0)", x.was(other, 0), other == 2 ? 1 : -1);
            DUE.same("was(2, " + other + ")", x.was(2, other), other == 0 ? 1 : -1);
        });
    }

    /** On a way from depth 0 to 8: what is not PUBLISHED hides itself and all under it, and nothing else. */
    private static void published() {
        for (int hidden = 0; hidden <= 8; hidden++) {
            FindingAid x = Due.of(ReadTest.deep(8) + "+f2 z\n");
            DUE.same("published(" + hidden + ", false)", x.published(hidden, false), 0);
            DUE.same("print()", Due.printed(x), hidden == 0 ? "" : ReadTest.deep(hidden - 1) + "+f2 z\n");
            for (int i = 0; i <= 9; i++) {
                boolean shown = i < hidden || i == 9 && hidden > 0;
                if (i != hidden) {
                    DUE.same("published(" + i + ", true)", x.published(i, true), shown ? 1 : 0);
                }
            }
            DUE.same("published(" + hidden + ", true)", x.published(hidden, true), 1);
            DUE.same("print()", Due.printed(x), ReadTest.deep(8) + "+f2 z\n");
        }
        FindingAid x = Due.of(TREE);
        sweep(-2, 101, i -> {
            DUE.same("published(" + i + ", true)", x.published(i, true), in(i, 0, 3) ? 1 : -1);
            DUE.same("published(" + i + ", false)", x.published(i, false), in(i, 0, 3) ? 0 : -1);
            x.published(i, true);
        });
    }

    /** Every set of bits; what 0 and 1; ASKS 0 .. 1. */
    private static void asks() {
        for (int bits = 0; bits < 8; bits++) {
            String parts = ((bits & 1) != 0 ? "x" : "a") + ((bits & 2) != 0 ? " d1901" : " d1900") + ((bits & 4) != 0 ? " e2b\n" : " e1b\n");
            FindingAid x = Due.of("f1 a d1900 e1b\n");
            DUE.same("merge() with " + parts, Due.merge(x, "f1 " + parts), bits == 0 ? 0 : 1);
            DUE.same("ask(0, 1)", x.ask(0, 1), bits == 0 ? -1 : bits);
            DUE.same("take(0)", x.take(0), bits == 0 ? -1 : 1);
            DUE.same("print()", Due.printed(x), "f1 " + parts);
        }
        FindingAid x = Due.of(TREE);
        Due.merge(x, "f1 q d1900-1920? e5b\n+s2 c e1b\n++u3 d\n");
        sweep(-2, 101, i -> {
            DUE.same("ask(" + i + ", 0)", x.ask(i, 0), in(i, 0, 1) ? i : -1);
            DUE.same("ask(" + i + ", 1)", x.ask(i, 1), in(i, 0, 1) ? 1 + 3 * i : -1);
            DUE.same("ask(1, " + i + ")", x.ask(1, i), i == 0 ? 1 : i == 1 ? 4 : -1);
            DUE.same("ask(2, " + i + ")", x.ask(2, i), -1);
            DUE.same("take(" + i + ")", x.take(i), in(i, 0, 1) ? 1 : -1);
            DUE.same("take(" + i + ") again", x.take(i), in(i, 0, 1) ? 0 : -1);
        });
    }

    private static void printed() {
        FindingAid x = Due.of(TREE);
        sweep(-2, 60, i -> DUE.same("at(" + i + ") before print()", x.at(i), -1));
        DUE.same("print()", x.print(), TREE.length());
        sweep(-2, 60, i -> DUE.same("at(" + i + ")", x.at(i), in(i, 0, TREE.length() - 1) ? TREE.charAt(i) : -1));
    }
}
