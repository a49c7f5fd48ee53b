/** Promises 18, 19 and 20: another text of the units, what it asks, and what is taken of it. */
public final class MergeTest {
    public static void main(String[] args) {
        Due due = new Due();
        differences(due);
        titlesEndWhereTheyEnd(due);
        paths(due);
        taking(due);
        allThreeAreTaken(due);
        takenOrReadAnew(due);
        wrongOnes(due);
        mostAsks(due);
        due.end();
    }

    private static void asks(Due due, FindingAid x, int[]... rows) {
        for (int i = 0; i < rows.length; i++) {
            due.same("ask(" + i + ", 0)", x.ask(i, 0), rows[i][0]);
            due.same("ask(" + i + ", 1)", x.ask(i, 1), rows[i][1]);
        }
        due.same("ask behind the last", x.ask(rows.length, 0), -1);
    }

    private static void differs(Due due, String parts, String others, int bits) {
        FindingAid x = Due.of("f1 " + parts + "\n");
        String what = parts + " merged with " + others;
        due.same(what, Due.merge(x, "f1 " + others + "\n"), bits == 0 ? 0 : 1);
        due.same("bits of " + what, x.ask(0, 1), bits == 0 ? -1 : bits);
    }

    private static void differences(Due due) {
        differs(due, "a", "a", 0);
        differs(due, "a", "b", 1);
        differs(due, "a", "ab", 1);
        differs(due, "ab", "a", 1);
        differs(due, "abcdefghijklmnop", "abcdefghijklmnoq", 1);
        differs(due, "a d1900", "a d1900", 0);
        differs(due, "a d1900", "a", 2);
        differs(due, "a", "a d1900", 2);
        differs(due, "a d1900", "a d1901", 2);
        differs(due, "a d1900-1902", "a d1900-1901", 2);
        differs(due, "a d1900-1902", "a d1901-1902", 2);
        differs(due, "a d1900?", "a d1900", 2);
        differs(due, "a d1900-1900", "a d1900", 0);
        differs(due, "a e1b", "a e1b", 0);
        differs(due, "a e1b", "a e2b", 4);
        differs(due, "a e1b", "a e1p", 4);
        differs(due, "a e1b", "a", 4);
        differs(due, "a", "a e1b", 4);
        differs(due, "a d1900 e1b", "b d1900 e2b", 5);
        differs(due, "a d1900 e1b", "a d1901 e1m", 6);
        differs(due, "a d1900 e1b", "b", 7);
    }

    /** What stands behind a TITLE, of the next level or of a text before, is none of it. */
    private static void titlesEndWhereTheyEnd(Due due) {
        FindingAid x = Due.of("f1 abcdefghijklmnop\n+s1 b\n+s2 abcdefghijklmnop\n");
        due.same("merge()", Due.merge(x, "f1 abcdefghijklmnop\n+s1 c\n+s2 abcdefghijklmnop\n"), 1);
        asks(due, x, new int[] {1, 1});
        FindingAid y = new FindingAid();
        for (int n = 0; n < 4; n++) {
            Due.read(y, "f1 abcd\n");
            Due.merge(y, "f1 wxyz\n");
            for (int m = 0; m < 3; m++) {
                Due.read(y, "f1 a\n");
                due.same("merge() of the same", Due.merge(y, "f1 a\n"), 0);
                due.same("merge() of a longer one", Due.merge(y, "f1 ab\n"), 1);
                due.same("merge() of the same", Due.merge(y, "f1 a\n"), 0);
            }
            Due.read(y, "f1 qrst\n");
        }
        String full = "f1 a\n" + "+i1 a\n".repeat(98) + "+i2 abcdefghijklmnop\n";
        FindingAid z = Due.of(full);
        due.same("merge() of the last one's 16 letters", Due.merge(z, full), 0);
    }

    private static void paths(Due due) {
        FindingAid x = Due.of("f1 a\n+s2 b\n++u3 c\n+s3 d\n++u3 e\n+s3 f\n");
        // the kinds are free to differ; where they stand in the text, too
        due.same("merge()", Due.merge(x, "s1 a\n+u3 z\n++i3 c\n+s9 z\n++u3 z\n+s2 z\n++i3 c\n++i2 z\n"), 3);
        asks(due, x, new int[] {3, 1}, new int[] {4, 1}, new int[] {1, 1});
        due.same("merge() of another root", Due.merge(x, "f2 z\n+s2 z\n++u3 z\n"), 0);
        due.same("merge() of a longer path", Due.merge(x, "f1 a\n+s1 z\n++s2 z\n"), 0);
        due.same("merge() of a path less its root", Due.merge(x, "f2 z\n+u3 z\n"), 0);
        due.same("merge() of the same path twice", Due.merge(x, "f1 a\n+s3 y\n+s3 d\n+s3 z\n"), 2);
        asks(due, x, new int[] {3, 1}, new int[] {3, 1});
        x.move(2, 3);
        due.same("merge() after a move", Due.merge(x, "f1 a\n+s2 b\n++u3 z\n+s3 d\n++u3 z\n"), 1);
        asks(due, x, new int[] {2, 1});
        FindingAid deep = Due.of(ReadTest.deep(8));
        String other = ReadTest.deep(8);
        due.same("merge() at depth 8", Due.merge(deep, other.substring(0, other.length() - 2) + "b\n"), 1);
        asks(due, deep, new int[] {8, 1});
    }

    private static void taking(Due due) {
        FindingAid x = Due.of("f1 abc d1900-1910? e5b\n+s2 b\n+s3 c d1950 e7p\n");
        due.same("merge()", Due.merge(x, "f1 x\n+s2 defg d1800-1801? e9999m\n+s3 c d1950 e8p\n"), 3);
        asks(due, x, new int[] {0, 7}, new int[] {1, 7}, new int[] {2, 4});
        due.same("print() before", Due.printed(x), "f1 abc d1900-1910? e5b\n+s2 b\n+s3 c d1950 e7p\n");
        due.same("take(1)", x.take(1), 1);
        due.same("print() with one", Due.printed(x),
                "f1 abc d1900-1910? e5b\n+s2 defg d1800-1801? e9999m\n+s3 c d1950 e7p\n");
        due.same("extent(1, 1)", x.extent(1, 1), 9999);
        due.same("take(0)", x.take(0), 1);
        due.same("level(0, 9)", x.level(0, 9), 1);
        due.same("letter(0, 1)", x.letter(0, 1), -1);
        due.same("level(0, 4)", x.level(0, 4), -1);
        due.same("level(0, 5)", x.level(0, 5), -1);
        due.same("level(0, 6)", x.level(0, 6), 0);
        due.same("level(0, 7)", x.level(0, 7), -1);
        due.same("level(0, 8)", x.level(0, 8), -1);
        due.same("take(2)", x.take(2), 1);
        due.same("print() with all", Due.printed(x), "f1 x\n+s2 defg d1800-1801? e9999m\n+s3 c d1950 e8p\n");
        asks(due, x, new int[] {0, 7}, new int[] {1, 7}, new int[] {2, 4});
        due.same("level(1, 0), kinds stay", x.level(1, 0), 1);
        // the level is told by its own number, wherever it has come since
        FindingAid y = Due.of("f1 a\n+s1 b\n+u2 c\n");
        Due.merge(y, "s1 a\n+u2 z\n");
        y.move(2, 1);
        due.same("take(0) after a move", y.take(0), 1);
        due.same("print()", Due.printed(y), "f1 a\n+s1 b\n++u2 z\n");
    }

    /** Also what did not differ when it was asked: another ASK of the level may have changed it since. */
    private static void allThreeAreTaken(Due due) {
        FindingAid x = Due.of("f1 a\n+s1 b d1900 e1b\n");
        due.same("merge()", Due.merge(x, "f1 a\n+s1 z d1900 e1b\n+s1 b d1950? e1b\n+s1 b d1900 e9p\n+s1 c\n"), 4);
        asks(due, x, new int[] {1, 1}, new int[] {1, 2}, new int[] {1, 4}, new int[] {1, 7});
        String[] parts = {"z d1900 e1b", "b d1950? e1b", "b d1900 e9p", "c"};
        for (int i : new int[] {0, 1, 2, 3}) {
            due.same("take(" + i + ")", x.take(i), 1);
            due.same("print()", Due.printed(x), "f1 a\n+s1 " + parts[i] + "\n");
        }
        FindingAid y = Due.of("f1 a\n+s1 b d1900 e1b\n");
        Due.merge(y, "f1 a\n+s1 c\n+s1 b d1950? e1b\n");
        y.print();
        due.same("take(0)", y.take(0), 1);
        due.same("what was printed before", Due.latest(y, 21), "f1 a\n+s1 b d1900 e1b\n");
        due.same("take(1)", y.take(1), 1);
        due.same("print()", Due.printed(y), "f1 a\n+s1 b d1950? e1b\n");
    }

    private static void takenOrReadAnew(Due due) {
        FindingAid x = Due.of("f1 a\n+s1 b\n");
        Due.merge(x, "f1 y\n+s1 z\n+s1 w\n");
        due.same("take(2)", x.take(2), 1);
        due.same("take(2) again", x.take(2), 0);
        due.same("take(1), of the same level", x.take(1), 1);
        due.same("letter(1, 0)", x.letter(1, 0), 'z');
        due.same("take(2) again", x.take(2), 0);
        due.same("letter(1, 0)", x.letter(1, 0), 'z');
        due.same("read() of a wrong text", Due.read(x, "f1"), Due.THROWS);
        due.same("merge() of a wrong text", Due.merge(x, "f1 q"), Due.THROWS);
        asks(due, x, new int[] {0, 1}, new int[] {1, 1}, new int[] {1, 1});
        due.same("take(0) after wrong texts", x.take(0), 1);
        due.same("letter(0, 0)", x.letter(0, 0), 'y');
        Due.merge(x, "f1 k\n");
        due.same("ask(1, 0) after another merge", x.ask(1, 0), -1);
        due.same("read()", Due.read(x, "f1 m\n"), 1);
        asks(due, x, new int[] {0, 1});
        due.same("take(0) of levels before", x.take(0), 0);
        due.same("take(1) of levels before", x.take(1), -1);
        due.same("letter(0, 0)", x.letter(0, 0), 'm');
        due.same("merge() of a wrong text", Due.merge(x, "f1 q"), Due.THROWS);
        due.same("take(0) of levels before", x.take(0), 0);
        due.same("merge()", Due.merge(x, "f1 n\n"), 1);
        due.same("take(0)", x.take(0), 1);
        due.same("letter(0, 0)", x.letter(0, 0), 'n');
        due.same("merge() of the same once more", Due.merge(x, "f1 n\n"), 0);
        due.same("take(0) of no asks", x.take(0), -1);
    }

    private static void wrongOnes(Due due) {
        FindingAid x = Due.of("f1 a\n+s1 b\n");
        Due.merge(x, "f1 y\n+s1 z\n");
        for (int bad : new int[] {-1, 2, 100, Integer.MIN_VALUE, Integer.MAX_VALUE}) {
            due.same("ask(" + bad + ", 0)", x.ask(bad, 0), -1);
            due.same("ask(" + bad + ", 1)", x.ask(bad, 1), -1);
            due.same("take(" + bad + ")", x.take(bad), -1);
        }
        for (int bad : new int[] {-1, 2, Integer.MIN_VALUE, Integer.MAX_VALUE}) {
            due.same("ask(0, " + bad + ")", x.ask(0, bad), -1);
        }
    }

    private static void mostAsks(Due due) {
        FindingAid x = Due.of("f1 a\n+i1 a\n");
        due.same("merge() with 100 asks", Due.merge(x, "f1 b\n" + "+i1 b\n".repeat(99)), 100);
        due.same("ask(99, 0)", x.ask(99, 0), 1);
        due.same("ask(100, 0)", x.ask(100, 0), -1);
        due.same("take(99)", x.take(99), 1);
    }
}
