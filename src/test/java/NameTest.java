/** Promises 13 and 14: headings of a level, and the levels of a heading. */
public final class NameTest {
    public static void main(String[] args) {
        Due due = new Due();
        linking(due);
        wrongOnes(due);
        levelsOfAHeading(due);
        due.end();
    }

    private static FindingAid tree() {
        return Due.of("f1 a\n+s1 b\n+s2 c\n+s3 d\n");
    }

    private static void linking(Due due) {
        FindingAid x = tree();
        due.same("name(1, 1)", x.name(1, 1), 1);
        due.same("name(1, 999)", x.name(1, 999), 2);
        due.same("name(1, 1) again", x.name(1, 1), -3);
        due.same("name(1, 30)", x.name(1, 30), 3);
        due.same("name(2, 30)", x.name(2, 30), 1);
        due.same("name(1, 40)", x.name(1, 40), 4);
        due.same("name(1, 50)", x.name(1, 50), -4);
        due.same("name(1, 40) again, and full", x.name(1, 40), -3);
        due.same("name(1, 1000), and full", x.name(1, 1000), -2);
        due.same("named(50, 0)", x.named(50, 0), -1);
        due.same("name(2, 50)", x.name(2, 50), 2);
        for (int heading : new int[] {1, 999, 30, 40}) {
            due.same("named(" + heading + ", 0)", x.named(heading, 0), 1);
        }
        due.same("named(30, 1)", x.named(30, 1), 2);
    }

    private static void wrongOnes(Due due) {
        FindingAid x = tree();
        for (int bad : new int[] {-1, 4, 100, Integer.MIN_VALUE, Integer.MAX_VALUE}) {
            due.same("name(" + bad + ", 1)", x.name(bad, 1), -1);
            due.same("name(" + bad + ", 0)", x.name(bad, 0), -1);
        }
        for (int bad : new int[] {-1, 0, 1000, Integer.MIN_VALUE, Integer.MAX_VALUE}) {
            due.same("name(0, " + bad + ")", x.name(0, bad), -2);
            due.same("named(" + bad + ", 0)", x.named(bad, 0), -1);
        }
        due.same("name(0, 1) after all these", x.name(0, 1), 1);
    }

    private static void levelsOfAHeading(Due due) {
        FindingAid x = tree();
        x.name(3, 8);
        x.name(0, 8);
        x.name(2, 9);
        x.name(2, 8);
        due.same("named(8, 0)", x.named(8, 0), 0);
        due.same("named(8, 1)", x.named(8, 1), 2);
        due.same("named(8, 2)", x.named(8, 2), 3);
        for (int bad : new int[] {3, 4, -1, Integer.MIN_VALUE, Integer.MAX_VALUE}) {
            due.same("named(8, " + bad + ")", x.named(8, bad), -1);
        }
        due.same("named(9, 0)", x.named(9, 0), 2);
        due.same("named(9, 1)", x.named(9, 1), -1);
        due.same("named(7, 0)", x.named(7, 0), -1);
        x.move(2, 1);
        due.same("named(8, 1) after a move", x.named(8, 1), 2);
    }
}
