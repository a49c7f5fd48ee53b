/** Promise 2: a sign more, its lowest eight bits; what is told beyond 3000 is lost. */
public final class SignTest {
    public static void main(String[] args) {
        Due due = new Due();
        lowestBitsCount(due);
        signsAreGoneOnceRead(due);
        restIsLost(due);
        due.end();
    }

    private static void lowestBitsCount(Due due) {
        FindingAid x = new FindingAid();
        x.sign('f' + 256);
        x.sign('1' - 256);
        x.sign(' ' + 0x7fffff00);
        x.sign('a' | 0x80000000);
        x.sign('\n' - 1024);
        due.same("read() of signs with higher bits", Due.read(x, ""), 1);
        due.same("level(0, 1)", x.level(0, 1), 1);
        due.same("letter(0, 0)", x.letter(0, 0), 'a');
        x.sign(-1);
        due.same("read() of 255", Due.read(x, ""), Due.THROWS);
        due.same("place()", x.place(), 0);
        x.sign('f' + 128);
        due.same("read() with bit 7 set", Due.read(x, "1 a\n"), Due.THROWS);
        due.same("place()", x.place(), 0);
    }

    private static void signsAreGoneOnceRead(Due due) {
        FindingAid x = new FindingAid();
        due.same("read() of half a line", Due.read(x, "f1 "), Due.THROWS);
        due.same("read() of the other half", Due.read(x, "a\n"), Due.THROWS);
        due.same("place()", x.place(), 0);
        due.same("read() of a whole line", Due.read(x, "f1 a\n"), 1);
        due.same("merge() of nothing behind it", Due.merge(x, ""), Due.THROWS);
        due.same("merge() of a whole line", Due.merge(x, "f1 b\n"), 1);
        due.same("read() of nothing behind it", Due.read(x, ""), Due.THROWS);
    }

    /** Longer than 512 calls: what happens there is free, but is to be as the promise says. */
    private static void restIsLost(Due due) {
        String line = "+u1000 abcdefghijklmnop d1900-1901? e1000b\n";
        String text = "f1 a\n" + line.repeat(69);
        String whole = text + "+u1 abcdefghijklmnop d1900?\n";
        String open = text + "+u12 abcdefghijklmnop d1900?";
        due.same("length", whole.length(), 3000);
        due.same("length", open.length(), 3000);
        FindingAid x = new FindingAid();
        due.same("read() of 3000 signs", Due.read(x, whole), 71);
        due.same("read() of 3000 signs and more", Due.read(x, whole + "?????"), 71);
        due.same("read() of 3000 signs and an end", Due.read(x, open + "\n"), Due.THROWS);
        due.same("place()", x.place(), 3000);
        due.same("read() after that", Due.read(x, "f1 a\n"), 1);
    }
}
