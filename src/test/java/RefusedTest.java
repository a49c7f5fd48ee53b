import java.util.ArrayList;
import java.util.List;
import java.util.function.Supplier;
import java.util.function.ToIntFunction;

/**
 * A call that is refused, and one that only asks, changes nothing: the object is held, with all
 * that it can be asked, against another one that was used in the same way but for that call.
 */
public final class RefusedTest {
    private static final int[] FAR = {Integer.MIN_VALUE, -101, -100, -2, -1, 100, 101, 1 << 28, 1 << 30, Integer.MAX_VALUE};
    private static final Due DUE = new Due();

    /** A call, and the answer that is due. */
    private record Call(String words, int answer, ToIntFunction<FindingAid> on) { }

    public static void main(String[] args) {
        onEach(States::empty, ofAny(0));
        onEach(States::emptyButTold, ofAny(0));
        onEach(States::used, ofAny(7));
        onEach(States::used, ofUsed());
        onEach(States::deep, ofDeep());
        onEach(States::full, ofAny(100));
        onEach(States::full, ofFull());
        onEach(States::readAnew, ofReadAnew());
        wrongTexts();
        DUE.end();
    }

    private static void onEach(Supplier<FindingAid> state, List<Call> calls) {
        String untouched = Whole.of(state.get());
        for (Call call : calls) {
            FindingAid x = state.get();
            DUE.same(call.words, call.on.applyAsInt(x), call.answer);
            DUE.same(call.words + " once more", call.on.applyAsInt(x), call.answer);
            DUE.same("all behind " + call.words, Whole.of(x), untouched);
        }
    }

    private static void add(List<Call> calls, String words, int answer, ToIntFunction<FindingAid> on) {
        calls.add(new Call(words, answer, on));
    }

    /** What no object with so many levels can do, and what it can always be asked. */
    private static List<Call> ofAny(int levels) {
        List<Call> calls = new ArrayList<>();
        for (int bad : FAR) {
            ofNoLevel(calls, bad);
        }
        ofNoLevel(calls, levels);
        ofNoLevel(calls, levels + 1);
        for (int bad : new int[] {Integer.MIN_VALUE, -1, 1000, Integer.MAX_VALUE}) {
            add(calls, "differ(" + bad + ")", -1, x -> x.differ(bad));
            add(calls, "twice(" + bad + ")", -1, x -> x.twice(bad));
            add(calls, "named(1, " + bad + ")", -1, x -> x.named(1, bad));
            add(calls, "named(" + bad + ", 0)", -1, x -> x.named(bad, 0));
            add(calls, "ask(" + bad + ", 0)", -1, x -> x.ask(bad, 0));
            add(calls, "ask(0, " + bad + ")", -1, x -> x.ask(0, bad));
            add(calls, "take(" + bad + ")", -1, x -> x.take(bad));
            add(calls, "at(" + bad + ")", -1, x -> x.at(bad));
        }
        add(calls, "named(0, 0)", -1, x -> x.named(0, 0));
        return calls;
    }

    /** NONE comes first, whatever else is wrong. */
    private static void ofNoLevel(List<Call> calls, int bad) {
        add(calls, "level(" + bad + ", 0)", -1, x -> x.level(bad, 0));
        add(calls, "letter(" + bad + ", 0)", -1, x -> x.letter(bad, 0));
        add(calls, "compare(" + bad + ", 0)", -2, x -> x.compare(bad, 0));
        add(calls, "compare(0, " + bad + ")", -2, x -> x.compare(0, bad));
        add(calls, "compare(" + bad + ", " + bad + ")", -2, x -> x.compare(bad, bad));
        add(calls, "was(" + bad + ", 0)", -1, x -> x.was(bad, 0));
        add(calls, "published(" + bad + ", true)", -1, x -> x.published(bad, true));
        add(calls, "published(" + bad + ", false)", -1, x -> x.published(bad, false));
        for (int unit : new int[] {-1, 0, 2, 3}) {
            add(calls, "extent(" + bad + ", " + unit + ")", -1, x -> x.extent(bad, unit));
        }
        for (int kind : new int[] {-1, 0, 3, 4}) {
            add(calls, "restricted(" + bad + ", " + kind + ")", -1, x -> x.restricted(bad, kind));
            for (int reason : new int[] {-1, 0, 1, 99, 100}) {
                add(calls, "restrict(" + bad + ", " + kind + ", " + reason + ")", -1, x -> x.restrict(bad, kind, reason));
            }
        }
        for (int heading : new int[] {0, 1, 999, 1000}) {
            add(calls, "name(" + bad + ", " + heading + ")", -1, x -> x.name(bad, heading));
        }
        for (int other : new int[] {0, 1, bad}) {
            add(calls, "move(" + bad + ", " + other + ")", -1, x -> x.move(bad, other));
            add(calls, "move(" + other + ", " + bad + ")", -1, x -> x.move(other, bad));
        }
    }

    private static List<Call> ofUsed() {
        List<Call> calls = new ArrayList<>();
        for (int bad : new int[] {Integer.MIN_VALUE, -1, 4, 1 << 30, Integer.MAX_VALUE}) {
            add(calls, "restrict(1, " + bad + ", 5)", -2, x -> x.restrict(1, bad, 5));
            add(calls, "restrict(1, " + bad + ", 0)", -2, x -> x.restrict(1, bad, 0));
            add(calls, "restricted(1, " + bad + ")", -2, x -> x.restricted(1, bad));
        }
        for (int bad : new int[] {Integer.MIN_VALUE, -1, 100, 256, Integer.MAX_VALUE}) {
            add(calls, "restrict(1, 1, " + bad + ")", -2, x -> x.restrict(1, 1, bad));
            add(calls, "restrict(6, 0, " + bad + ")", -2, x -> x.restrict(6, 0, bad));
        }
        for (int bad : new int[] {Integer.MIN_VALUE, -1, 0, 1000, Integer.MAX_VALUE}) {
            add(calls, "name(0, " + bad + ")", -2, x -> x.name(0, bad));
            add(calls, "name(1, " + bad + "), full", -2, x -> x.name(1, bad));
        }
        for (int bad : new int[] {Integer.MIN_VALUE, -1, 3, Integer.MAX_VALUE}) {
            add(calls, "extent(0, " + bad + ")", -2, x -> x.extent(0, bad));
        }
        for (int bad : new int[] {Integer.MIN_VALUE, -1, 10, Integer.MAX_VALUE}) {
            add(calls, "level(1, " + bad + ")", -1, x -> x.level(1, bad));
        }
        for (int bad : new int[] {Integer.MIN_VALUE, -1, 2, 16, Integer.MAX_VALUE}) {
            add(calls, "was(2, " + bad + ")", -1, x -> x.was(2, bad));
            add(calls, "letter(0, " + bad + ")", -1, x -> x.letter(0, bad));
        }
        add(calls, "name(0, 1) again", -3, x -> x.name(0, 1));
        add(calls, "name(1, 996) again, full", -3, x -> x.name(1, 996));
        add(calls, "name(1, 2), the fifth", -4, x -> x.name(1, 2));
        add(calls, "move(0, 0)", -3, x -> x.move(0, 0));
        add(calls, "move(0, 1)", -3, x -> x.move(0, 1));
        add(calls, "move(1, 1), itself", -3, x -> x.move(1, 1));
        add(calls, "move(1, 2), right under it", -3, x -> x.move(1, 2));
        add(calls, "move(1, 3), under it", -3, x -> x.move(1, 3));
        add(calls, "move(4, 2), a kind behind its own", -3, x -> x.move(4, 2));
        add(calls, "move(3, 6), an i", -3, x -> x.move(3, 6));
        add(calls, "take(2), taken", 0, x -> x.take(2));
        add(calls, "take(4)", -1, x -> x.take(4));
        add(calls, "ask(4, 0)", -1, x -> x.ask(4, 0));
        add(calls, "ask(0, 2)", -1, x -> x.ask(0, 2));
        questions(calls);
        return calls;
    }

    private static void questions(List<Call> calls) {
        add(calls, "place()", 13, FindingAid::place);
        add(calls, "level(6, 1)", 9, x -> x.level(6, 1));
        add(calls, "letter(0, 1)", 'b', x -> x.letter(0, 1));
        add(calls, "compare(4, 0)", 1, x -> x.compare(4, 0));
        add(calls, "extent(1, 0)", 2, x -> x.extent(1, 0));
        add(calls, "differ(0)", 0, x -> x.differ(0));
        add(calls, "twice(0)", 4, x -> x.twice(0));
        add(calls, "restricted(3, 1)", 98, x -> x.restricted(3, 1));
        add(calls, "named(999, 0)", 1, x -> x.named(999, 0));
        add(calls, "was(2, 1)", 4, x -> x.was(2, 1));
        add(calls, "ask(0, 1)", 7, x -> x.ask(0, 1));
        add(calls, "at(0)", 'f', x -> x.at(0));
    }

    private static List<Call> ofDeep() {
        List<Call> calls = new ArrayList<>();
        add(calls, "move(8, 7), to 8, 9 and 10", -3, x -> x.move(8, 7));
        add(calls, "move(8, 6), to 7, 8 and 9", -3, x -> x.move(8, 6));
        add(calls, "move(9, 7), to 8 and 9", -3, x -> x.move(9, 7));
        add(calls, "move(1, 9), to 3 .. 9", -3, x -> x.move(1, 9));
        add(calls, "move(11, 12), u above s", -3, x -> x.move(11, 12));
        add(calls, "move(12, 13), i above u", -3, x -> x.move(12, 13));
        add(calls, "move(14, 13), i above i", -3, x -> x.move(14, 13));
        add(calls, "move(1, 11), s above f", -3, x -> x.move(1, 11));
        for (int i = 0; i <= 7; i++) {
            int top = i;
            for (int j = i; j <= 7; j++) {
                int low = j;
                add(calls, "move(" + top + ", " + low + ")", -3, x -> x.move(top, low));
            }
        }
        return calls;
    }

    private static List<Call> ofFull() {
        List<Call> calls = new ArrayList<>();
        add(calls, "name(99, 5)", -4, x -> x.name(99, 5));
        add(calls, "name(0, 999)", -4, x -> x.name(0, 999));
        add(calls, "name(99, 4)", -3, x -> x.name(99, 4));
        add(calls, "name(99, 1000)", -2, x -> x.name(99, 1000));
        add(calls, "was(99, 5)", -1, x -> x.was(99, 5));
        add(calls, "was(99, 6)", -1, x -> x.was(99, 6));
        add(calls, "letter(99, 16)", -1, x -> x.letter(99, 16));
        add(calls, "letter(99, -1)", -1, x -> x.letter(99, -1));
        add(calls, "restrict(99, 4, 1)", -2, x -> x.restrict(99, 4, 1));
        add(calls, "move(4, 99)", -3, x -> x.move(4, 99));
        add(calls, "move(98, 99)", -3, x -> x.move(98, 99));
        return calls;
    }

    private static List<Call> ofReadAnew() {
        List<Call> calls = new ArrayList<>();
        add(calls, "take(0), read anew", 0, x -> x.take(0));
        add(calls, "take(1), taken and read anew", 0, x -> x.take(1));
        add(calls, "take(2), read anew", -1, x -> x.take(2));
        return calls;
    }

    /** A text that is WRONG is gone, and all stays as it was but place(), whatever is wrong in it. */
    private static void wrongTexts() {
        String most = "f1 q\n" + "+i9 q d2000 e7m\n".repeat(99);
        String[] texts = {"", "x", "+", "f1 q", "f1 q\nf1 q\n", "f1 q d2000\n+s2 q e7m\n++s3 q\n+++i4 q\n++++", "i1 q\n+i1 q\n",
            "f1 q\n+s2 q e7q\n", "f1 q\n+s2 q d2000-1999\n", "f1 q\n+s2 q d3000\n", "f1 q\n+s2 q d200\n", "f1 q\n+s0 q\n", most + "+", most + "x"};
        List<Supplier<FindingAid>> states = List.of(States::empty, States::usedAndRead, States::deep,
                States::full, States::readAnew);
        for (Supplier<FindingAid> state : states) {
            String untouched = Whole.butPlace(state.get());
            for (String text : texts) {
                FindingAid x = state.get();
                DUE.same("read() of " + text, Due.read(x, text), Due.THROWS);
                DUE.same("all behind read() of " + text, Whole.butPlace(x), untouched);
                FindingAid y = state.get();
                DUE.same("merge() of " + text, Due.merge(y, text), Due.THROWS);
                DUE.same("all behind merge() of " + text, Whole.butPlace(y), untouched);
                DUE.same("what was told of " + text, Due.read(y, ""), Due.THROWS);
                DUE.same("place() without it", y.place(), 0);
            }
            String without = Whole.butAsks(state.get());
            FindingAid z = state.get();
            Due.merge(z, "f1 other\n+s2 other e1b\n");
            DUE.same("all but the asks behind a right merge()", Whole.butAsks(z), without);
        }
    }
}
