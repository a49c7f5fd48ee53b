/** Promises 21 and 22: the SHOWN levels as a TEXT, and its signs. */
public final class PrintTest {
    public static void main(String[] args) {
        Due due = new Due();
        forms(due);
        order(due);
        latestStays(due);
        longest(due);
        due.end();
    }

    private static void same(Due due, String text) {
        due.same("print() of " + text, Due.printed(Due.of(text)), text);
    }

    private static void forms(Due due) {
        same(due, "f1 a\n");
        same(due, "i9999 abcdefghijklmnop d1000-2999? e9999p\n");
        same(due, "s10 a d1900\n+u100 b d2000?\n++i1000 c e10b\n");
        same(due, "u101 a e1m\n+u2020 b d1999-2000 e1001b\n");
        same(due, ReadTest.deep(8));
        due.same("a span of one year", Due.printed(Due.of("f1 a d1900-1900? e1b\n")), "f1 a d1900? e1b\n");
    }

    private static void order(Due due) {
        FindingAid x = Due.of("f5 a\n+s10 b\n++u2 c\n++u1 d\n+s9 e\n+i9 f\n+s100 g\n+s10 h\n");
        due.same("print()", Due.printed(x), "f5 a\n+s9 e\n+i9 f\n+s10 b\n++u1 d\n++u2 c\n+s10 h\n+s100 g\n");
        x.move(2, 7);
        x.move(3, 0);
        due.same("print() after moves", Due.printed(x),
                "f5 a\n+u1 d\n+s9 e\n+i9 f\n+s10 b\n+s10 h\n++u2 c\n+s100 g\n");
        x.published(7, false);
        x.published(4, false);
        due.same("print() in part", Due.printed(x), "f5 a\n+u1 d\n+i9 f\n+s10 b\n+s100 g\n");
        // 1 comes under 2, which has the higher level number, and stands behind it all the same
        FindingAid y = Due.of("f1 a\n+s1 b\n+s2 c\n+s3 d\n");
        y.move(1, 3);
        due.same("print() below a later level", Due.printed(y), "f1 a\n+s2 c\n+s3 d\n++s1 b\n");
        FindingAid again = new FindingAid();
        due.same("read() of what was printed", Due.read(again, Due.printed(y)), 4);
        due.same("level(3, 2)", again.level(3, 2), 2);
    }

    private static void latestStays(Due due) {
        FindingAid x = Due.of("f1 abc\n");
        due.same("at(0) before print()", x.at(0), -1);
        due.same("print()", x.print(), 7);
        for (int bad : new int[] {7, 8, -1, Integer.MIN_VALUE, Integer.MAX_VALUE}) {
            due.same("at(" + bad + ")", x.at(bad), -1);
        }
        due.same("read()", Due.read(x, "s2 z\n"), 1);
        due.same("what was printed before", Due.latest(x, 7), "f1 abc\n");
        due.same("print()", x.print(), 5);
        due.same("what was printed", Due.latest(x, 5), "s2 z\n");
        due.same("at(5), of before", x.at(5), -1);
        x.published(0, false);
        due.same("at(0), not printed anew", x.at(0), 's');
        due.same("print() of none", x.print(), 0);
        due.same("at(0)", x.at(0), -1);
    }

    /** More signs than one text can tell: other texts bring the longest parts to all levels. */
    private static void longest(Due due) {
        String parts = " abcdefghijklmnop d1900-1901? e1000b\n";
        String chain = ReadTest.deep(7);
        FindingAid x = Due.of(chain + items(1000, 1092, " a\n"));
        String longChain = chain.replace(" a\n", parts);
        takeAll(due, x, longChain + items(1000, 1046, parts), 54);
        takeAll(due, x, longChain + items(1046, 1092, parts), 46);
        String whole = longChain + items(1000, 1092, parts);
        due.same("print()", x.print(), whole.length());
        due.same("print()", Due.printed(x), whole);
        due.same("more than 3000", whole.length() > 4900 ? 1 : 0, 1);
    }

    private static String items(int from, int to, String parts) {
        StringBuilder text = new StringBuilder();
        for (int number = from; number < to; number++) {
            text.append("++++++++i").append(number).append(parts);
        }
        return text.toString();
    }

    private static void takeAll(Due due, FindingAid x, String other, int asks) {
        due.same("merge()", Due.merge(x, other), asks);
        for (int i = 0; i < asks; i++) {
            due.same("take(" + i + ")", x.take(i), 1);
        }
    }
}
