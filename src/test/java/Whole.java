import java.util.function.IntUnaryOperator;

/**
 * All that an object can be asked, as one text, so that two objects can be held against one
 * another. The last questions change the object (what is not PUBLISHED, what is taken, what is
 * told and not read yet can be seen in no other way): it is of no use afterwards.
 */
final class Whole {
    private static final int DEEPEST = 8;

    private final FindingAid x;
    private final StringBuilder all = new StringBuilder();
    private int levels = 0;

    private Whole(FindingAid x) {
        this.x = x;
    }

    static String of(FindingAid x) {
        return "place " + x.place() + "\n" + butPlace(x) + pending(x);
    }

    /** All but place() and the signs that are told and not read. */
    static String butPlace(FindingAid x) {
        Whole whole = new Whole(x);
        whole.list("printed", x::at);
        whole.tellLevels();
        whole.list("ask", i -> x.ask(i, 0) < 0 ? -1 : x.ask(i, 0) * 10 + x.ask(i, 1));
        whole.tellHidden();
        whole.tellRoom();
        whole.list("take", x::take);
        whole.tellPrint();
        return whole.all.toString();
    }

    /** All but place(), the signs, and the ASKS. */
    static String butAsks(FindingAid x) {
        Whole whole = new Whole(x);
        whole.list("printed", x::at);
        whole.tellLevels();
        whole.tellHidden();
        whole.tellRoom();
        return whole.all.toString();
    }

    private static String pending(FindingAid x) {
        int read = Due.read(x, "");
        return "told " + read + " " + x.place() + "\n" + (read == Due.THROWS ? "" : Due.printed(x));
    }

    private void list(String what, IntUnaryOperator ask) {
        all.append(what);
        for (int k = 0; k < 10_000; k++) {
            int answer = ask.applyAsInt(k);
            if (answer == FindingAid.NONE) {
                break;
            }
            all.append(' ').append(answer);
        }
        all.append('\n');
    }

    private void tellLevels() {
        while (x.level(levels, 0) != FindingAid.NONE) {
            tellLevel(levels);
            levels++;
        }
        list("differ", x::differ);
        list("twice", x::twice);
        for (int heading = -1; heading <= 1001; heading++) {
            if (x.named(heading, 0) != FindingAid.NONE) {
                int one = heading;
                list("named " + heading, j -> x.named(one, j));
            }
        }
    }

    private void tellLevel(int i) {
        all.append("level ").append(i).append(": ").append(Due.title(x, i));
        for (int what = 0; what < 10; what++) {
            all.append(' ').append(x.level(i, what));
        }
        for (int unit = 0; unit < 3; unit++) {
            all.append(" e").append(x.extent(i, unit));
        }
        for (int kind = 0; kind < 4; kind++) {
            all.append(" r").append(x.restricted(i, kind));
        }
        for (int b = 0; b < i; b++) {
            all.append(" c").append(x.compare(b, i));
        }
        list(" was", j -> x.was(i, j));
    }

    /** How much room for headings is left. */
    private void tellRoom() {
        for (int i = 0; i < levels; i++) {
            for (int heading = 500; heading <= 504; heading++) {
                all.append(' ').append(x.name(i, heading));
            }
        }
        all.append('\n');
    }

    /** From the top down, as what is under one that is not SHOWN can't be seen. */
    private void tellHidden() {
        tellPrint();
        for (int depth = 0; depth <= DEEPEST; depth++) {
            for (int i = 0; i < levels; i++) {
                if (x.level(i, 3) == depth) {
                    all.append("published ").append(i).append(' ').append(x.published(i, true)).append('\n');
                }
            }
            tellPrint();
        }
    }

    private void tellPrint() {
        all.append("print ").append(x.print()).append('\n').append(Due.printed(x));
    }
}
