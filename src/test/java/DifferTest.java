/** Promise 9: own extents that are not the sum of those under the level. */
public final class DifferTest {
    public static void main(String[] args) {
        Due due = new Due();
        list(due, Due.of("f1 a e5b\n+s1 b e2b\n+s2 c e3b\n"));
        list(due, Due.of("f1 a e6b\n+s1 b e2b\n+s2 c e3b\n"), 0);
        list(due, Due.of("f1 a e4b\n+s1 b e2b\n+s2 c e3b\n"), 0);
        list(due, Due.of("f1 a\n+s1 b e2b\n"));
        list(due, Due.of("f1 a e5b\n"));
        list(due, Due.of("f1 a e5b\n+s1 b e2m\n+s2 c\n"));
        list(due, Due.of("f1 a e5b\n+s1 b e9m\n++u1 c e4b\n+s2 d\n"), 0);
        // the sum is of THE EXTENTS right under it, not of all that is told deeper
        list(due, Due.of("f1 a e5b\n+s1 b e5b\n++u1 c e1b\n"), 1);
        list(due, Due.of("f1 a e5b\n+s1 b\n++u1 c e5b\n"));
        list(due, Due.of("f1 a e1b\n+s1 b e2m\n++u1 c e3p\n+++i1 d e4p\n++u2 e e5m\n+s2 f e6b\n"), 0, 1, 2);
        FindingAid x = Due.of("f1 a e5b\n+s1 b e2b\n++i1 c e2b\n+s2 d e3b\n");
        list(due, x);
        x.move(2, 3);
        list(due, x, 3);
        x.move(2, 0);
        list(due, x, 0);
        due.end();
    }

    private static void list(Due due, FindingAid x, int... levels) {
        for (int i = 0; i < levels.length; i++) {
            due.same("differ(" + i + ")", x.differ(i), levels[i]);
        }
        for (int bad : new int[] {levels.length, levels.length + 1, -1, Integer.MIN_VALUE, Integer.MAX_VALUE}) {
            due.same("differ(" + bad + ")", x.differ(bad), -1);
        }
    }
}
