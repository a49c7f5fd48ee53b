/** Promise 4, and what the terms say of where a text is WRONG, for read() and merge() alike. */
public final class PlaceTest {
    private static final Due DUE = new Due();

    public static void main(String[] args) {
        starts();
        depths();
        kinds();
        numbersAndTitles();
        dates();
        extents();
        tooManyLevels();
        latestTextCounts();
        DUE.end();
    }

    private static void wrong(String marked) {
        DUE.wrong(marked);
    }

    private static void right(String text) {
        DUE.right(text);
    }

    private static void starts() {
        wrong("^");
        wrong("^\n");
        wrong("^ f1 a\n");
        wrong("^1 a\n");
        wrong("^F1 a\n");
        wrong("f1 a^");
        wrong("f^");
        wrong("f1 a\n^\n");
        wrong("f1 a\n^ ");
        wrong("f1 a^\r\n");
    }

    private static void depths() {
        wrong("^+f1 a\n");
        wrong("f1 a\n^f1 a\n");
        wrong("f1 a\n^i2 a\n");
        wrong("f1 a\n+^+s1 a\n");
        wrong("f1 a\n+s1 a\n++^+u1 a\n");
        wrong("f1 a\n+^");
        wrong("f1 a\n+^\n");
        String deep = ReadTest.deep(8);
        right(deep);
        right(deep + "++++++++i1 a\n");
        wrong(deep + "++++++++^+i1 a\n");
        wrong(deep + "++++++++^");
        right("f1 a\n+s1 a\n++u1 a\n+s1 a\n");
        wrong("f1 a\n+s1 a\n++u1 a\n+s1 a\n++^+u1 a\n");
    }

    private static void kinds() {
        wrong("s1 a\n+^f2 a\n");
        wrong("u1 a\n+^s2 a\n");
        wrong("f1 a\n+u1 a\n++^s2 a\n");
        wrong("f1 a\n+i1 a\n++^i2 a\n");
        wrong("f1 a\n+i1 a\n++^f2 a\n");
        wrong("f1 a\n+i1 a\n++^x2 a\n");
        wrong("f1 a\n+i1 a\n++^+i2 a\n");
        wrong("f1 a\n+i1 a\n++^");
        wrong("i1 a\n+^i1 a\n");
        wrong("f1 a\n+^e1 a\n");
        wrong("f1 a\n+^g1 a\n");
        // the level above counts, not the line before
        right("f1 a\n+u1 a\n++i1 a\n+s1 a\n");
        wrong("f1 a\n+s1 a\n+u1 a\n++^s1 a\n");
    }

    private static void numbersAndTitles() {
        wrong("f^0 a\n");
        wrong("f^01 a\n");
        wrong("f^ a\n");
        wrong("f^a\n");
        wrong("f^f1 a\n");
        right("f1000 a\n");
        wrong("f1000^0 a\n");
        wrong("f1^\n");
        wrong("f1^a\n");
        wrong("f1^-");
        wrong("f1 ^\n");
        wrong("f1 ^ a\n");
        wrong("f1 ^A\n");
        wrong("f1 ^1\n");
        wrong("f1 ^`\n");
        wrong("f1 ^{\n");
        right("f1 az\n");
        right("f1 abcdefghijklmnop\n");
        wrong("f1 abcdefghijklmnop^q\n");
        wrong("f1 abcdefghijklmnop^q d1900\n");
        wrong("f1 a^B\n");
        wrong("f1 ^");
    }

    private static void dates() {
        wrong("f1 a ^\n");
        wrong("f1 a ^");
        wrong("f1 a ^x\n");
        wrong("f1 a ^ d1900\n");
        wrong("f1 a ^1900\n");
        right("f1 a d1000\n");
        right("f1 a d2999\n");
        wrong("f1 a d^0999\n");
        wrong("f1 a d^3000\n");
        wrong("f1 a d^9999\n");
        wrong("f1 a d^0000?\n");
        wrong("f1 a d^\n");
        wrong("f1 a d^?\n");
        wrong("f1 a d199^\n");
        wrong("f1 a d099^\n");
        wrong("f1 a d9^-1900\n");
        wrong("f1 a d300^");
        wrong("f1 a d^");
        wrong("f1 a d1900^0\n");
        wrong("f1 a d^30000\n");
        right("f1 a d1900-1900\n");
        right("f1 a d1900-1901?\n");
        wrong("f1 a d1900-^1899\n");
        wrong("f1 a d1900-^3000\n");
        wrong("f1 a d1900-^0999\n");
        wrong("f1 a d1900-^18990\n");
        wrong("f1 a d1900-1901^0\n");
        wrong("f1 a d1900-^?\n");
        wrong("f1 a d1900-^\n");
        wrong("f1 a d1900-^");
        wrong("f1 a d1900-18^\n");
        wrong("f1 a d1900-000^?\n");
        wrong("f1 a d1900-^-1901\n");
        wrong("f1 a d1900-1901^-1902\n");
        wrong("f1 a d1900?^?\n");
        wrong("f1 a d1900?^-1901\n");
        wrong("f1 a d1900^e1b\n");
        wrong("f1 a d1900 ^d1900\n");
        wrong("f1 a d1900 ^\n");
        wrong("f1 a d1900 ^");
        wrong("f1 a d1900?^");
        wrong("f1 a d1900^");
    }

    private static void extents() {
        right("f1 a e1b\n");
        right("f1 a d1900 e9999m\n");
        right("f1 a d1900? e10p\n");
        wrong("f1 a e^0b\n");
        wrong("f1 a e^01b\n");
        wrong("f1 a e^b\n");
        wrong("f1 a e^\n");
        wrong("f1 a e^");
        wrong("f1 a e1^");
        wrong("f1 a e1^\n");
        wrong("f1 a e1^q\n");
        wrong("f1 a e1^a\n");
        wrong("f1 a e1234^5b\n");
        wrong("f1 a e1b^b\n");
        wrong("f1 a e1b^ \n");
        wrong("f1 a e1b^ d1900\n");
        wrong("f1 a e1b^ e1b\n");
        wrong("f1 a e1b^");
    }

    /** A level too many is told by its line's first sign, whatever else the line has. */
    private static void tooManyLevels() {
        String most = "f1 a\n" + "+i1 a\n".repeat(99);
        right(most);
        wrong(most + "^+i1 a\n");
        wrong(most + "^++i1 a\n");
        wrong(most + "^+");
        wrong(most + "^\n");
        wrong("f1 a\n" + "+i1 a\n".repeat(98) + "+i1 a^");
    }

    private static void latestTextCounts() {
        FindingAid x = new FindingAid();
        Due.read(x, "f1 a d\n");
        DUE.same("place() after a wrong text", x.place(), 6);
        DUE.same("place() once more", x.place(), 6);
        Due.tell(x, "f1 a\n");
        DUE.same("place() before it is read", x.place(), 6);
        Due.read(x, "");
        DUE.same("place() after a right text", x.place(), -1);
        Due.merge(x, "f1 a d3\n");
        DUE.same("place() after a wrong other text", x.place(), 7);
        Due.merge(x, "f1 a\n");
        DUE.same("place() after a right other text", x.place(), -1);
    }
}
