/** Promise 7: DATES by the first year, then the last, then what is certain before what is not. */
public final class CompareTest {
    public static void main(String[] args) {
        Due due = new Due();
        // levels 1 .. 9 stand in the order of their dates, 10 and 11 have none, 12 is the same as 4
        String[] dates = {" d1000", " d1899-2000", " d1900-1901?", " d1900-1902", " d1900-1902?",
            " d1900-2999", " d1901", " d1901?", " d2999?", "", "", " d1900-1902"};
        StringBuilder text = new StringBuilder("f1 a\n");
        for (String date : dates) {
            text.append("+u1 a").append(date).append('\n');
        }
        FindingAid x = Due.of(text.toString());
        for (int a = 1; a <= 10; a++) {
            for (int b = 1; b <= 10; b++) {
                due.same("compare(" + a + ", " + b + ")", x.compare(a, b), Integer.compare(a, b));
            }
        }
        due.same("compare(10, 11), both without", x.compare(10, 11), 0);
        due.same("compare(0, 10), both without", x.compare(0, 10), 0);
        due.same("compare(12, 4), the same", x.compare(12, 4), 0);
        due.same("compare(12, 5)", x.compare(12, 5), -1);
        due.same("compare(3, 12)", x.compare(3, 12), -1);
        for (int bad : new int[] {-1, 13, 100, Integer.MIN_VALUE, Integer.MAX_VALUE}) {
            due.same("compare(0, " + bad + ")", x.compare(0, bad), -2);
            due.same("compare(" + bad + ", 0)", x.compare(bad, 0), -2);
            due.same("compare(" + bad + ", " + bad + ")", x.compare(bad, bad), -2);
        }
        FindingAid y = Due.of("f1 a d1900\n+s1 a d1900-1900\n+s2 a d1900-1900?\n");
        due.same("one year, told in two ways", y.compare(0, 1), 0);
        due.same("one year, certain and not", y.compare(0, 2), -1);
        due.end();
    }
}
