/** Promise 15: every pair of KINDS, every height with every depth, every pair of levels of a tree. */
public final class EdgeMoveTest {
    private static final Due DUE = new Due();

    public static void main(String[] args) {
        kinds();
        heightsAndDepths();
        wholeTree();
        deepAfterMoves();
        DUE.end();
    }

    /** Under one of a KIND not behind its own, and never under an i. */
    private static void kinds() {
        String letters = "fsui";
        for (int own = 0; own < 4; own++) {
            for (int other = 0; other < 4; other++) {
                FindingAid x = Due.of("f1 a\n+" + letters.charAt(own) + "2 b\n+" + letters.charAt(other) + "3 c\n");
                boolean fits = other <= own && other != 3;
                String call = letters.charAt(own) + " under " + letters.charAt(other);
                DUE.same(call, x.move(1, 2), fits ? 1 : -3);
                DUE.same(call + ", under", x.level(1, 2), fits ? 2 : 0);
                DUE.same(call + ", deep", x.level(1, 3), fits ? 2 : 1);
                DUE.same(call + ", was", x.was(1, 0), fits ? 0 : -1);
            }
        }
    }

    /** A level with `height` levels below it comes under one of a depth: the deepest is at most 8. */
    private static void heightsAndDepths() {
        for (int depth = 0; depth <= 8; depth++) {
            for (int height = 0; height <= 7; height++) {
                StringBuilder text = new StringBuilder(ReadTest.deep(depth));
                for (int k = 0; k <= height; k++) {
                    text.append("+".repeat(k + 1)).append("f2 b\n");
                }
                FindingAid x = Due.of(text.toString());
                int moved = depth + 1;
                int by = depth + 1 + height <= 8 ? depth : 0;
                String call = "height " + height + " under depth " + depth;
                DUE.same(call, x.move(moved, depth), depth + 1 + height <= 8 ? 1 : -3);
                for (int k = 0; k <= height; k++) {
                    DUE.same(call + ", level " + k, x.level(moved + k, 3), 1 + k + by);
                    DUE.same(call + ", under", x.level(moved + k, 2), k == 0 ? by : moved + k - 1);
                }
            }
        }
    }

    /** A side branch that goes deeper than the first one counts, too. */
    private static void wholeTree() {
        String text = "f1 a\n+f1 b\n++f1 c\n++f2 d\n+++f1 e\n++f3 f\n+f2 g\n++f1 h\n+++f1 i\n++++f1 j\n+++++f1 k\n++++++f1 l\n";
        // 1 has a height of 2; 6 .. 11 are of depth 1 .. 6
        for (int under = 6; under <= 11; under++) {
            FindingAid x = Due.of(text);
            int depth = under - 5;
            DUE.same("move(1, " + under + ")", x.move(1, under), depth + 3 <= 8 ? 1 : -3);
            DUE.same("level(4, 3)", x.level(4, 3), depth + 3 <= 8 ? depth + 3 : 3);
            DUE.same("level(5, 3)", x.level(5, 3), depth + 3 <= 8 ? depth + 2 : 2);
        }
        int[][] under = {{1, 2, 3, 4, 5}, {2}, {3, 4}, {4}, {5}, {6, 7, 8, 9, 10, 11}};
        int[] tops = {1, 2, 3, 4, 5, 6};
        for (int t = 0; t < tops.length; t++) {
            for (int low : under[t]) {
                FindingAid x = Due.of(text);
                DUE.same("move(" + tops[t] + ", " + low + ")", x.move(tops[t], low), -3);
                DUE.same("print() behind it", Due.printed(x), text);
            }
        }
    }

    /** The depth that counts is that of now, not that of the text. */
    private static void deepAfterMoves() {
        FindingAid x = Due.of(ReadTest.deep(8) + "+f9 z\n");
        DUE.same("move(9, 8), to 9", x.move(9, 8), -3);
        DUE.same("move(4, 0), to 1 .. 5", x.move(4, 0), 1);
        DUE.same("level(8, 3)", x.level(8, 3), 5);
        DUE.same("move(9, 8), to 6", x.move(9, 8), 1);
        DUE.same("move(4, 3), to 4 .. 9", x.move(4, 3), -3);
        DUE.same("move(4, 2), to 3 .. 8", x.move(4, 2), 1);
        DUE.same("level(9, 3)", x.level(9, 3), 8);
        DUE.same("move(3, 9), to 9", x.move(3, 9), -3);
        DUE.same("move(3, 8), to 8", x.move(3, 8), 1);
        DUE.same("move(8, 3), under it now", x.move(8, 3), -3);
        DUE.same("move(9, 0)", x.move(9, 0), 1);
        DUE.same("was(9, 0)", x.was(9, 0), 0);
        DUE.same("was(9, 1)", x.was(9, 1), 8);
        DUE.same("was(9, 2), the refused are none", x.was(9, 2), -1);
        DUE.same("was(4, 0)", x.was(4, 0), 3);
        DUE.same("was(4, 1)", x.was(4, 1), 0);
        DUE.same("was(4, 2)", x.was(4, 2), -1);
    }
}
