/** Promises 11 and 12: RESTRICTIONS cover a level and all under it; the nearest counts. */
public final class RestrictTest {
    public static void main(String[] args) {
        Due due = new Due();
        nearestCounts(due);
        kindsAreApart(due);
        movesChangeWhatCovers(due);
        wrongOnes(due);
        due.end();
    }

    private static FindingAid tree() {
        return Due.of("f1 a\n+s1 b\n++u1 c\n+++i1 d\n+s2 e\n");
    }

    private static void row(Due due, FindingAid x, int kind, int... reasons) {
        for (int i = 0; i < reasons.length; i++) {
            due.same("restricted(" + i + ", " + kind + ")", x.restricted(i, kind), reasons[i]);
        }
    }

    private static void nearestCounts(Due due) {
        FindingAid x = tree();
        row(due, x, 0, 0, 0, 0, 0, 0);
        due.same("restrict(1, 0, 1)", x.restrict(1, 0, 1), 1);
        row(due, x, 0, 0, 1, 1, 1, 0);
        due.same("restrict(0, 0, 99)", x.restrict(0, 0, 99), 1);
        row(due, x, 0, 99, 1, 1, 1, 99);
        due.same("restrict(2, 0, 50)", x.restrict(2, 0, 50), 1);
        row(due, x, 0, 99, 1, 50, 50, 99);
        due.same("restrict(1, 0, 2)", x.restrict(1, 0, 2), 1);
        row(due, x, 0, 99, 2, 50, 50, 99);
        due.same("restrict(2, 0, 0)", x.restrict(2, 0, 0), 1);
        row(due, x, 0, 99, 2, 2, 2, 99);
        due.same("restrict(3, 0, 0), there is none", x.restrict(3, 0, 0), 1);
        row(due, x, 0, 99, 2, 2, 2, 99);
        FindingAid deep = Due.of(ReadTest.deep(8));
        deep.restrict(0, 3, 5);
        due.same("restricted(8, 3) from level 0", deep.restricted(8, 3), 5);
    }

    private static void kindsAreApart(Due due) {
        FindingAid x = tree();
        for (int kind = 0; kind < 4; kind++) {
            x.restrict(0, kind, 10 + kind);
            x.restrict(kind, kind, 20 + kind);
        }
        row(due, x, 0, 20, 20, 20, 20, 20);
        row(due, x, 1, 11, 21, 21, 21, 11);
        row(due, x, 2, 12, 12, 22, 22, 12);
        row(due, x, 3, 13, 13, 13, 23, 13);
    }

    private static void movesChangeWhatCovers(Due due) {
        FindingAid x = tree();
        x.restrict(1, 2, 6);
        x.restrict(4, 2, 8);
        x.move(2, 4);
        row(due, x, 2, 0, 6, 8, 8, 8);
        x.restrict(3, 2, 7);
        x.move(3, 1);
        row(due, x, 2, 0, 6, 8, 7, 8);
    }

    private static void wrongOnes(Due due) {
        FindingAid x = tree();
        for (int bad : new int[] {-1, 5, 100, Integer.MIN_VALUE, Integer.MAX_VALUE}) {
            due.same("restrict(" + bad + ", 0, 1)", x.restrict(bad, 0, 1), -1);
            due.same("restrict(" + bad + ", 4, 100)", x.restrict(bad, 4, 100), -1);
            due.same("restricted(" + bad + ", 0)", x.restricted(bad, 0), -1);
            due.same("restricted(" + bad + ", 4)", x.restricted(bad, 4), -1);
        }
        for (int bad : new int[] {-1, 4, Integer.MIN_VALUE, Integer.MAX_VALUE}) {
            due.same("restrict(1, " + bad + ", 1)", x.restrict(1, bad, 1), -2);
            due.same("restrict(1, " + bad + ", 0)", x.restrict(1, bad, 0), -2);
            due.same("restricted(1, " + bad + ")", x.restricted(1, bad), -2);
        }
        for (int bad : new int[] {-1, 100, Integer.MIN_VALUE, Integer.MAX_VALUE}) {
            due.same("restrict(1, 0, " + bad + ")", x.restrict(1, 0, bad), -2);
        }
        for (int kind = 0; kind < 4; kind++) {
            row(due, x, kind, 0, 0, 0, 0, 0);
        }
    }
}
