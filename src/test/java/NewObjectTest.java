/** Promise 1: no levels, no signs. */
public final class NewObjectTest {
    public static void main(String[] args) {
        Due due = new Due();
        FindingAid x = new FindingAid();
        due.same("place()", x.place(), -1);
        due.same("level(0, 0)", x.level(0, 0), -1);
        due.same("letter(0, 0)", x.letter(0, 0), -1);
        due.same("compare(0, 0)", x.compare(0, 0), -2);
        due.same("extent(0, 0)", x.extent(0, 0), -1);
        due.same("differ(0)", x.differ(0), -1);
        due.same("twice(0)", x.twice(0), -1);
        due.same("restrict(0, 0, 1)", x.restrict(0, 0, 1), -1);
        due.same("restricted(0, 0)", x.restricted(0, 0), -1);
        due.same("name(0, 1)", x.name(0, 1), -1);
        due.same("named(1, 0)", x.named(1, 0), -1);
        due.same("named(0, 0)", x.named(0, 0), -1);
        due.same("move(0, 0)", x.move(0, 0), -1);
        due.same("was(0, 0)", x.was(0, 0), -1);
        due.same("published(0, true)", x.published(0, true), -1);
        due.same("ask(0, 0)", x.ask(0, 0), -1);
        due.same("take(0)", x.take(0), -1);
        due.same("at(0)", x.at(0), -1);
        due.same("print()", x.print(), 0);
        due.same("at(0) after print()", x.at(0), -1);
        due.same("read()", Due.read(x, ""), Due.THROWS);
        due.same("place() after read()", x.place(), 0);
        FindingAid y = new FindingAid();
        due.same("merge()", Due.merge(y, ""), Due.THROWS);
        due.same("place() after merge()", y.place(), 0);
        due.same("merge() of a right text", Due.merge(y, "f1 a\n"), 0);
        due.same("place() after that", y.place(), -1);
        due.same("ask(0, 0) after that", y.ask(0, 0), -1);
        objectsAreApart(due);
        due.end();
    }

    private static void objectsAreApart(Due due) {
        FindingAid x = new FindingAid();
        FindingAid y = new FindingAid();
        Due.tell(x, "f1 a\n");
        due.same("read() of another object", Due.read(y, ""), Due.THROWS);
        due.same("read() of this one", Due.read(x, ""), 1);
        due.same("level(0, 1) of another object", y.level(0, 1), -1);
    }
}
