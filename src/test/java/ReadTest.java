import java.util.List;
import java.util.function.Supplier;

/** Promise 3: levels take the place of those before, with all that was told of these. */
public final class ReadTest {
    private static final String FIRST = "f1 a d1900 e5b\n+s2 b\n++u3 c\n+s2 d\n";

    public static void main(String[] args) {
        Due due = new Due();
        rightTexts(due);
        newLevelsComeClean(due);
        wrongTextLeavesAll(due);
        nothingOfBeforeIsLeft(due);
        due.end();
    }

    private static void rightTexts(Due due) {
        FindingAid x = new FindingAid();
        due.same("one line", Due.read(x, "f1 a\n"), 1);
        due.same("an i alone", Due.read(x, "i9999 abcdefghijklmnop d1000-2999? e9999p\n"), 1);
        due.same("kinds jumped over", Due.read(x, "f1 a\n+i1 a\n+u1 a\n++i1 a\n"), 4);
        due.same("the same kind under one", Due.read(x, "u1 a\n+u1 a\n++u1 a\n"), 3);
        due.same("depth 8", Due.read(x, deep(8)), 9);
        due.same("back from depth 8 to 1", Due.read(x, deep(8) + "+i1 z\n"), 10);
        due.same("a title that looks like a part", Due.read(x, "f1 d\n+s1 e e1b\n"), 2);
        due.same("100 levels", Due.read(x, "f1 a\n" + "+i1 a\n".repeat(99)), 100);
        due.same("level(99, 2)", x.level(99, 2), 0);
        due.same("level(100, 2)", x.level(100, 2), -1);
        due.same("fewer levels", Due.read(x, "f1 a\n"), 1);
        due.same("level(1, 2)", x.level(1, 2), -1);
    }

    static String deep(int depth) {
        StringBuilder text = new StringBuilder();
        for (int k = 0; k <= depth; k++) {
            text.append("+".repeat(k)).append("f1 a\n");
        }
        return text.toString();
    }

    private static FindingAid full() {
        FindingAid x = Due.of(FIRST);
        x.restrict(1, 0, 7);
        x.name(2, 33);
        x.move(2, 3);
        Due.merge(x, "f1 x\n");
        x.print();
        x.published(1, false);
        return x;
    }

    private static void newLevelsComeClean(Due due) {
        FindingAid x = full();
        x.published(0, false);
        x.restrict(0, 3, 8);
        due.same("read()", Due.read(x, "s9 q\n+s8 r\n++u7 t\n"), 3);
        due.same("place()", x.place(), -1);
        due.same("level(0, 0)", x.level(0, 0), 1);
        due.same("level(0, 4)", x.level(0, 4), -1);
        due.same("level(0, 7)", x.level(0, 7), -1);
        due.same("level(3, 0)", x.level(3, 0), -1);
        due.same("restricted(1, 0)", x.restricted(1, 0), 0);
        due.same("restricted(0, 3)", x.restricted(0, 3), 0);
        due.same("named(33, 0)", x.named(33, 0), -1);
        due.same("name(2, 33)", x.name(2, 33), 1);
        due.same("was(2, 0)", x.was(2, 0), -1);
        due.same("at(0), printed before", x.at(0), 'f');
        due.same("print()", Due.printed(x), "s9 q\n+s8 r\n++u7 t\n");
        due.same("ask(0, 1), of before", x.ask(0, 1), 7);
        due.same("take(0), of before", x.take(0), 0);
        FindingAid y = new FindingAid();
        for (int n = 0; n < 7; n++) {
            String parts = n % 3 == 0 ? " abc d1900-1901? e5m\n" : " d\n";
            due.same("read() once more", Due.read(y, "f1" + parts + "+s1" + parts), 2);
            due.same("print()", Due.printed(y), "f1" + parts + "+s1" + parts);
            due.same("level(1, 6)", y.level(1, 6), n % 3 == 0 ? 1 : 0);
        }
    }

    private static void wrongTextLeavesAll(Due due) {
        FindingAid x = full();
        due.same("read() of a wrong text", Due.read(x, "s9 q\n+s8 r d\n"), Due.THROWS);
        due.same("place()", x.place(), 12);
        due.same("level(0, 0)", x.level(0, 0), 0);
        due.same("level(0, 4)", x.level(0, 4), 1900);
        due.same("level(2, 2)", x.level(2, 2), 3);
        due.same("letter(1, 0)", x.letter(1, 0), 'b');
        due.same("level(3, 1)", x.level(3, 1), 2);
        due.same("restricted(1, 0)", x.restricted(1, 0), 7);
        due.same("named(33, 0)", x.named(33, 0), 2);
        due.same("was(2, 0)", x.was(2, 0), 1);
        due.same("ask(0, 1)", x.ask(0, 1), 7);
        due.same("at(2)", x.at(2), ' ');
        due.same("print()", Due.printed(x), "f1 a d1900 e5b\n+s2 d\n++u3 c\n");
        due.same("take(0)", x.take(0), 1);
        due.same("letter(0, 0)", x.letter(0, 0), 'x');
    }

    /** Levels read into a used object are as those read into a new one, in all that can be asked. */
    private static void nothingOfBeforeIsLeft(Due due) {
        String[] texts = {"i9 z\n", "f1 ab\n+s2 c\n++u3 d\n+++i4 e\n+s2 f\n++u3 g\n+i9 h\n", deep(8), "f1 a\n" + "+u3 b e2b\n".repeat(99)};
        List<Supplier<FindingAid>> states = List.of(States::empty, States::usedAndRead, States::deep, States::full, States::readAnew);
        for (String text : texts) {
            FindingAid fresh = Due.of(text);
            fresh.print();
            String whole = Whole.butAsks(fresh);
            for (Supplier<FindingAid> state : states) {
                FindingAid x = state.get();
                due.same("read() of " + text, Due.read(x, text), text.split("\n").length);
                x.print();
                due.same("all of it", Whole.butAsks(x), whole);
            }
        }
    }
}
