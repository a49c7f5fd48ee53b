/** All promises with 100 levels, the most there are; and that no row of theirs is seen once gone. */
public final class FullHouseTest {
    private static final int LAST = 99;

    public static void main(String[] args) {
        Due due = new Due();
        FindingAid x = Due.of("f1 a\n+u7 b\n" + items(2, 99) + "+u7 z d1900-1901? e9b\n");
        ofTheLast(due, x);
        notesOfTheLast(due, x);
        movesOfTheLast(due, x);
        lists(due);
        noneBehindTheLast(due);
        rowsOfBeforeAreGone(due);
        due.end();
    }

    private static String items(int from, int to) {
        StringBuilder text = new StringBuilder();
        for (int number = from; number < to; number++) {
            text.append("+u").append(1000 + number).append(" a\n");
        }
        return text.toString();
    }

    private static void ofTheLast(Due due, FindingAid x) {
        int[] row = {2, 7, 0, 1, 1900, 1901, 1, 9, 0, 1};
        for (int what = 0; what < row.length; what++) {
            due.same("level(99, " + what + ")", x.level(LAST, what), row[what]);
        }
        due.same("letter(99, 0)", x.letter(LAST, 0), 'z');
        due.same("letter(99, 1)", x.letter(LAST, 1), -1);
        due.same("level(100, 0)", x.level(100, 0), -1);
        due.same("compare(99, 0)", x.compare(LAST, 0), -1);
        due.same("extent(99, 0)", x.extent(LAST, 0), 9);
        due.same("extent(0, 0)", x.extent(0, 0), 9);
        due.same("twice(0)", x.twice(0), LAST);
        due.same("twice(1)", x.twice(1), -1);
        due.same("differ(0)", x.differ(0), -1);
    }

    private static void notesOfTheLast(Due due, FindingAid x) {
        for (int kind = 0; kind < 4; kind++) {
            due.same("restrict(99, " + kind + ", 99)", x.restrict(LAST, kind, 99 - kind), 1);
            due.same("name(99, " + (kind + 1) + ")", x.name(LAST, kind + 1), kind + 1);
        }
        for (int kind = 0; kind < 4; kind++) {
            due.same("restricted(99, " + kind + ")", x.restricted(LAST, kind), 99 - kind);
            due.same("restricted(98, " + kind + ")", x.restricted(LAST - 1, kind), 0);
            due.same("named(" + (kind + 1) + ", 0)", x.named(kind + 1, 0), LAST);
            due.same("named(" + (kind + 1) + ", 1)", x.named(kind + 1, 1), -1);
        }
        due.same("name(99, 5)", x.name(LAST, 5), -4);
        due.same("published(99, false)", x.published(LAST, false), 0);
        int signs = x.print();
        due.same("published(99, true)", x.published(LAST, true), 1);
        due.same("print()", x.print() - signs, "+u7 z d1900-1901? e9b\n".length());
    }

    private static void movesOfTheLast(Due due, FindingAid x) {
        int[] unders = {1, 98, 2, 97, 3, 96};
        int[] before = {0, 1, 98, 2, 97};
        for (int under : unders) {
            due.same("move(99, " + under + ")", x.move(LAST, under), 1);
            due.same("extent(" + under + ", 0)", x.extent(under, 0), 9);
        }
        for (int j = 0; j < before.length; j++) {
            due.same("was(99, " + j + ")", x.was(LAST, j), before[j]);
        }
        due.same("was(99, 5)", x.was(LAST, 5), -1);
        due.same("move(96, 99), under it", x.move(96, LAST), -3);
        due.same("level(99, 3)", x.level(LAST, 3), 2);
    }

    private static void lists(Due due) {
        FindingAid x = Due.of("f1 a e1m\n" + "+u3 b e2m\n".repeat(99));
        for (int i = 2; i < 100; i++) {
            due.same("twice(" + (i - 2) + ")", x.twice(i - 2), i);
            x.name(i, 5);
        }
        due.same("twice(98)", x.twice(98), -1);
        due.same("named(5, 97)", x.named(5, 97), LAST);
        due.same("named(5, 98)", x.named(5, 98), -1);
        due.same("differ(0)", x.differ(0), 0);
        due.same("differ(1)", x.differ(1), -1);
        due.same("extent(0, 1)", x.extent(0, 1), 1);
    }

    private static void noneBehindTheLast(Due due) {
        String text = "f1 a\n" + items(1, 100);
        FindingAid x = Due.of(text);
        due.same("merge() of the same", Due.merge(x, text), 0);
        due.same("merge() of no path here", Due.merge(x, "f2 a\n" + items(1, 100)), 0);
        due.same("merge() of all", Due.merge(x, text.replace(" a\n", " b\n")), 100);
        due.same("ask(99, 0)", x.ask(99, 0), LAST);
        due.same("take(99)", x.take(99), 1);
        due.same("letter(99, 0)", x.letter(LAST, 0), 'b');
        due.same("differ(0)", x.differ(0), -1);
        due.same("twice(0)", x.twice(0), -1);
        due.same("named(1, 0)", x.named(1, 0), -1);
    }

    private static void rowsOfBeforeAreGone(Due due) {
        FindingAid x = Due.of("f1 a\n+u3 b e2m\n+u3 b\n++u3 b e3m\n+u4 c\n");
        due.same("twice(0)", x.twice(0), 2);
        for (int n = 0; n < 3; n++) {
            due.same("read() of less", Due.read(x, "f1 a e5m\n+u3 b\n"), 2);
            due.same("twice(0)", x.twice(0), -1);
            due.same("differ(0)", x.differ(0), -1);
            due.same("extent(1, 1)", x.extent(1, 1), 0);
            due.same("merge() of a path of before", Due.merge(x, "f1 a e5m\n+u3 b\n++u3 z\n+u4 z\n"), 0);
            due.same("print()", Due.printed(x), "f1 a e5m\n+u3 b\n");
        }
    }
}
