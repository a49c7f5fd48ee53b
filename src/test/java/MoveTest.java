/** Promises 15 and 16: a level comes under another one, and under whom it was before. */
public final class MoveTest {
    public static void main(String[] args) {
        Due due = new Due();
        allUnderItComesAlong(due);
        refusals(due);
        deepest(due);
        underWhomItWas(due);
        wrongOnes(due);
        due.end();
    }

    private static FindingAid tree() {
        return Due.of("f1 a\n+s1 b\n++u1 c\n+++i1 d\n+s2 e\n++s1 f\n+u5 g\n+i6 h\n");
    }

    private static void allUnderItComesAlong(Due due) {
        FindingAid x = tree();
        due.same("move(2, 5)", x.move(2, 5), 1);
        due.same("level(2, 2)", x.level(2, 2), 5);
        due.same("level(2, 3)", x.level(2, 3), 3);
        due.same("level(3, 2)", x.level(3, 2), 2);
        due.same("level(3, 3)", x.level(3, 3), 4);
        due.same("level(1, 3), not moved", x.level(1, 3), 1);
        due.same("level(2, 1), its number", x.level(2, 1), 1);
        due.same("move(2, 0)", x.move(2, 0), 1);
        due.same("level(2, 3)", x.level(2, 3), 1);
        due.same("level(3, 3)", x.level(3, 3), 2);
        due.same("move(1, 5)", x.move(1, 5), 1);
        due.same("print()", Due.printed(x), "f1 a\n+u1 c\n++i1 d\n+s2 e\n++s1 f\n+++s1 b\n+u5 g\n+i6 h\n");
        due.same("was(3, 0), it came along", x.was(3, 0), -1);
    }

    private static void refusals(Due due) {
        FindingAid x = tree();
        due.same("move(0, 1), level 0", x.move(0, 1), -3);
        due.same("move(0, 0), level 0", x.move(0, 0), -3);
        due.same("move(2, 2), itself", x.move(2, 2), -3);
        due.same("move(4, 5), right under it", x.move(4, 5), -3);
        due.same("move(1, 3), under it", x.move(1, 3), -3);
        due.same("move(1, 6), a kind behind its own", x.move(1, 6), -3);
        due.same("move(3, 7), an i", x.move(3, 7), -3);
        due.same("move(2, 7), an i", x.move(2, 7), -3);
        due.same("print(), all as it was", Due.printed(x),
                "f1 a\n+s1 b\n++u1 c\n+++i1 d\n+s2 e\n++s1 f\n+u5 g\n+i6 h\n");
        for (int i = 0; i < 8; i++) {
            due.same("was(" + i + ", 0)", x.was(i, 0), -1);
        }
        due.same("move(2, 6), the same kind", x.move(2, 6), 1);
        due.same("move(7, 2), kinds jumped over", x.move(7, 2), 1);
        due.same("move(4, 1)", x.move(4, 1), 1);
        due.same("move(1, 5), under it since the move", x.move(1, 5), -3);
    }

    private static void deepest(Due due) {
        // levels 0 .. 6 go down to depth 6; 7 has depth 1, with 8 under it; 9 has depth 1
        FindingAid x = Due.of(ReadTest.deep(6) + "+f2 a\n++i1 a\n+i3 a\n");
        due.same("move(7, 6), to 7 and 8", x.move(7, 6), 1);
        due.same("level(8, 3)", x.level(8, 3), 8);
        due.same("move(9, 7), to 8", x.move(9, 7), 1);
        due.same("level(9, 3)", x.level(9, 3), 8);
        due.same("move(7, 0)", x.move(7, 0), 1);
        FindingAid y = Due.of(ReadTest.deep(7) + "+f2 a\n++i1 a\n+i3 a\n");
        due.same("move(8, 7), to 8 and 9", y.move(8, 7), -3);
        due.same("level(8, 3), as it was", y.level(8, 3), 1);
        due.same("level(9, 3), as it was", y.level(9, 3), 2);
        due.same("was(8, 0)", y.was(8, 0), -1);
        due.same("move(10, 7), to 8", y.move(10, 7), 1);
        due.same("move(9, 7), to 8", y.move(9, 7), 1);
        due.same("move(8, 7), alone now", y.move(8, 7), 1);
        due.same("move(10, 8), to 9", y.move(10, 8), -3);
    }

    private static void underWhomItWas(Due due) {
        FindingAid x = tree();
        int[] unders = {4, 1, 5, 5, 0, 4, 1};
        for (int under : unders) {
            due.same("move(2, " + under + ")", x.move(2, under), 1);
        }
        int[] before = {1, 4, 1, 5, 5};
        for (int j = 0; j < before.length; j++) {
            due.same("was(2, " + j + ")", x.was(2, j), before[j]);
        }
        for (int bad : new int[] {5, 6, 7, -1, Integer.MIN_VALUE, Integer.MAX_VALUE}) {
            due.same("was(2, " + bad + ")", x.was(2, bad), -1);
        }
        due.same("level(2, 2)", x.level(2, 2), 1);
        due.same("was(3, 0)", x.was(3, 0), -1);
        x.move(3, 2);
        due.same("was(3, 0), to the same", x.was(3, 0), 2);
        due.same("was(3, 1)", x.was(3, 1), -1);
    }

    private static void wrongOnes(Due due) {
        FindingAid x = tree();
        for (int bad : new int[] {-1, 8, 100, Integer.MIN_VALUE, Integer.MAX_VALUE}) {
            due.same("move(" + bad + ", 0)", x.move(bad, 0), -1);
            due.same("move(1, " + bad + ")", x.move(1, bad), -1);
            due.same("move(0, " + bad + "), level 0 too", x.move(0, bad), -1);
            due.same("move(" + bad + ", " + bad + ")", x.move(bad, bad), -1);
            due.same("was(" + bad + ", 0)", x.was(bad, 0), -1);
        }
        due.same("was(1, 0)", x.was(1, 0), -1);
    }
}
