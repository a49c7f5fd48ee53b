/** Promise 17: a level is SHOWN if it is PUBLISHED and the one it is under is SHOWN. */
public final class PublishedTest {
    public static void main(String[] args) {
        Due due = new Due();
        FindingAid x = Due.of("f1 a\n+s1 b\n++u1 c\n+++i1 d\n+s2 e\n");
        for (int i = 0; i < 5; i++) {
            due.same("published(" + i + ", true)", x.published(i, true), 1);
        }
        due.same("published(1, false)", x.published(1, false), 0);
        due.same("published(2, true)", x.published(2, true), 0);
        due.same("published(3, true)", x.published(3, true), 0);
        due.same("published(0, true)", x.published(0, true), 1);
        due.same("published(4, true)", x.published(4, true), 1);
        due.same("print()", Due.printed(x), "f1 a\n+s2 e\n");
        due.same("published(3, false)", x.published(3, false), 0);
        due.same("published(1, true)", x.published(1, true), 1);
        due.same("print()", Due.printed(x), "f1 a\n+s1 b\n++u1 c\n+s2 e\n");
        due.same("published(0, false)", x.published(0, false), 0);
        due.same("published(4, true) under none shown", x.published(4, true), 0);
        due.same("print()", Due.printed(x), "");
        due.same("published(0, true)", x.published(0, true), 1);
        due.same("published(2, false)", x.published(2, false), 0);
        due.same("published(3, true)", x.published(3, true), 0);
        x.move(3, 4);
        due.same("published(3, true) after a move", x.published(3, true), 1);
        for (int bad : new int[] {-1, 5, 100, Integer.MIN_VALUE, Integer.MAX_VALUE}) {
            due.same("published(" + bad + ", true)", x.published(bad, true), -1);
            due.same("published(" + bad + ", false)", x.published(bad, false), -1);
        }
        FindingAid deep = Due.of(ReadTest.deep(8));
        deep.published(0, false);
        due.same("published(8, true) under level 0", deep.published(8, true), 0);
        due.end();
    }
}
