/** Promise 8: THE EXTENT of a level: its own in that unit, or else the sum of those under it. */
public final class ExtentTest {
    public static void main(String[] args) {
        Due due = new Due();
        String text = "f1 a\n+s1 b e3m\n++u1 c e4b\n+++i1 d e9b\n++u2 e e5m\n+s2 f\n++u1 g e6b\n++u2 h e7p\n";
        FindingAid x = Due.of(text);
        rows(due, x, new int[][] {
            {10, 3, 7}, {4, 3, 0}, {4, 0, 0}, {9, 0, 0}, {0, 5, 0}, {6, 0, 7}, {6, 0, 0}, {0, 0, 7},
        });
        due.same("move(2, 5)", x.move(2, 5), 1);
        rows(due, x, new int[][] {
            {10, 3, 7}, {0, 3, 0}, {4, 0, 0}, {9, 0, 0}, {0, 5, 0}, {10, 0, 7}, {6, 0, 0}, {0, 0, 7},
        });
        due.same("move(1, 5)", x.move(1, 5), 1);
        due.same("extent(5, 1)", x.extent(5, 1), 3);
        due.same("extent(0, 1)", x.extent(0, 1), 3);
        // a level whose upper one has a higher level number, and that one's too
        FindingAid y = Due.of("f1 a\n+s1 b e1b\n+s2 c e2m\n+s3 d\n");
        y.move(1, 2);
        y.move(2, 3);
        rows(due, y, new int[][] {{1, 2, 0}, {1, 0, 0}, {1, 2, 0}, {1, 2, 0}});
        FindingAid deep = Due.of(ReadTest.deep(7) + "++++++++i1 z e9999p\n++++++++i1 z e9999p\n");
        due.same("extent(0, 2) from depth 8", deep.extent(0, 2), 19998);
        wrongOnes(due, x);
        due.end();
    }

    private static void rows(Due due, FindingAid x, int[][] rows) {
        for (int i = 0; i < rows.length; i++) {
            for (int unit = 0; unit < 3; unit++) {
                due.same("extent(" + i + ", " + unit + ")", x.extent(i, unit), rows[i][unit]);
            }
        }
    }

    private static void wrongOnes(Due due, FindingAid x) {
        for (int bad : new int[] {-1, 8, 100, Integer.MIN_VALUE, Integer.MAX_VALUE}) {
            due.same("extent(" + bad + ", 0)", x.extent(bad, 0), -1);
            due.same("extent(" + bad + ", 3), both wrong", x.extent(bad, 3), -1);
        }
        for (int bad : new int[] {-1, 3, Integer.MIN_VALUE, Integer.MAX_VALUE}) {
            due.same("extent(0, " + bad + ")", x.extent(0, bad), -2);
        }
    }
}
