/** Promises 5 and 6: what is told of a level, and the letters of its TITLE. */
public final class LevelTest {
    private static final String TEXT = "f12 ab d1900-1920 e5b\n+s2 c d1901?\n++u9999 zzzzzzzzzzzzzzzy e9999m\n"
            + "+++i7 d d1000-2999? e10p\n++i70 e\n+i3 f\n";
    // KIND, NUMBER, under, deep, first year, last year, not certain, extent, unit, letters
    private static final int[][] ROWS = {
        {0, 12, -1, 0, 1900, 1920, 0, 5, 0, 2},
        {1, 2, 0, 1, 1901, 1901, 1, -1, -1, 1},
        {2, 9999, 1, 2, -1, -1, 0, 9999, 1, 16},
        {3, 7, 2, 3, 1000, 2999, 1, 10, 2, 1},
        {3, 70, 1, 2, -1, -1, 0, -1, -1, 1},
        {3, 3, 0, 1, -1, -1, 0, -1, -1, 1},
    };
    private static final String[] TITLES = {"ab", "c", "zzzzzzzzzzzzzzzy", "d", "e", "f"};

    public static void main(String[] args) {
        Due due = new Due();
        FindingAid x = Due.of(TEXT);
        for (int i = 0; i < ROWS.length; i++) {
            for (int what = 0; what < 10; what++) {
                due.same("level(" + i + ", " + what + ")", x.level(i, what), ROWS[i][what]);
            }
            due.same("title of " + i, Due.title(x, i) + "\n", TITLES[i] + "\n");
            due.same("letter behind the last", x.letter(i, TITLES[i].length()), -1);
        }
        for (int bad : new int[] {-1, 6, 100, 101, Integer.MIN_VALUE, Integer.MAX_VALUE}) {
            due.same("level(" + bad + ", 0)", x.level(bad, 0), -1);
            due.same("letter(" + bad + ", 0)", x.letter(bad, 0), -1);
        }
        for (int bad : new int[] {-1, 10, 16, Integer.MIN_VALUE, Integer.MAX_VALUE}) {
            due.same("level(2, " + bad + ")", x.level(2, bad), -1);
        }
        for (int bad : new int[] {-1, 2, 16, 17, Integer.MIN_VALUE, Integer.MAX_VALUE}) {
            due.same("letter(0, " + bad + ")", x.letter(0, bad), -1);
        }
        due.same("letter(1, -1), behind level 0's", x.letter(1, -1), -1);
        due.same("letter(2, 16)", x.letter(2, 16), -1);
        due.end();
    }
}
