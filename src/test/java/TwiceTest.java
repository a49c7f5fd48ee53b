/** Promise 10: levels with the NUMBER of one with a lower level number under the same. */
public final class TwiceTest {
    public static void main(String[] args) {
        Due due = new Due();
        list(due, Due.of("f1 a\n+s1 b\n+s2 c\n"));
        list(due, Due.of("f1 a\n+s7 b\n+s7 c\n+u7 d\n"), 2, 3);
        list(due, Due.of("f1 a\n+s1 b\n++u7 c\n+s2 d\n++u7 e\n"));
        FindingAid x = Due.of("f1 a\n+s1 b\n++u7 c\n+s2 d\n++u7 e\n+s1 f\n");
        list(due, x, 5);
        x.move(2, 3);
        list(due, x, 4, 5);
        x.move(4, 0);
        list(due, x, 5);
        x.move(4, 1);
        x.move(2, 1);
        list(due, x, 4, 5);
        due.end();
    }

    private static void list(Due due, FindingAid x, int... levels) {
        for (int i = 0; i < levels.length; i++) {
            due.same("twice(" + i + ")", x.twice(i), levels[i]);
        }
        for (int bad : new int[] {levels.length, levels.length + 1, -1, Integer.MIN_VALUE, Integer.MAX_VALUE}) {
            due.same("twice(" + bad + ")", x.twice(bad), -1);
        }
    }
}
