import java.util.Random;

/** All promises: random runs of at most 512 calls, answered by the class and by the Model. */
public final class ModelTest {
    private static final int RUNS = 4000;
    private static final int CALLS = 512;
    private static final String SIGNS = "++ffssuuii0123456789aadde  \n\n-??bmpzxA:/`{\r";

    private final Due due;
    private final Random random;
    private final StringBuilder trail = new StringBuilder();
    private final FindingAid x = new FindingAid();
    private final Model model = new Model();
    private int calls = 0;
    private boolean apart = false;

    private ModelTest(Due due, long seed) {
        this.due = due;
        this.random = new Random(seed);
    }

    public static void main(String[] args) {
        Due due = new Due();
        for (int seed = 0; seed < RUNS; seed++) {
            new ModelTest(due, seed).run();
            new ModelTest(due, -1 - seed).readSpoilt();
        }
        due.end();
    }

    private void run() {
        String base = tree(2 + random.nextInt(12));
        tellAndRead(base, true);
        while (calls < CALLS && !apart) {
            if (random.nextInt(40) == 0) {
                boolean again = random.nextInt(3) == 0;
                String text = random.nextInt(3) == 0 ? tree(1 + random.nextInt(10)) : varied(base);
                tellAndRead(random.nextInt(4) == 0 ? spoilt(text) : text, again);
            } else {
                call(random.nextInt(20));
            }
        }
    }

    private void readSpoilt() {
        while (calls < CALLS / 2 && !apart) {
            tellAndRead(spoilt(tree(1 + random.nextInt(4))), true);
        }
    }

    private void check(String call, int got, int want) {
        calls++;
        trail.append(call).append(" = ").append(want).append('\n');
        if (got != want && !apart) {
            apart = true;
            System.out.println(trail);
        }
        due.same(call, got, want);
    }

    private void tellAndRead(String text, boolean asRead) {
        if (calls + text.length() >= CALLS) {
            text = text.substring(0, Math.max(0, CALLS - 1 - calls));
        }
        calls += text.length();
        for (int k = 0; k < text.length(); k++) {
            x.sign(text.charAt(k));
            model.sign(text.charAt(k));
        }
        trail.append(text);
        if (asRead) {
            check("read()", Due.read(x, ""), model.read());
        } else {
            check("merge()", Due.merge(x, ""), model.merge());
        }
        check("place()", x.place(), model.place());
    }

    private int index() {
        int roll = random.nextInt(30);
        if (roll == 0) {
            int[] far = {-1, 100, 101, model.size(), Integer.MIN_VALUE, Integer.MAX_VALUE, 1 << 28};
            return far[random.nextInt(far.length)];
        }
        return random.nextInt(model.size() + 1);
    }

    private int small(int bound) {
        return random.nextInt(20) == 0 ? random.nextInt() : random.nextInt(bound + 2) - 1;
    }

    private void call(int which) {
        int i = index();
        int k;
        switch (which) {
            case 0: k = small(10); check("level(" + i + ", " + k + ")", x.level(i, k), model.level(i, k)); break;
            case 1: k = small(6); check("letter(" + i + ", " + k + ")", x.letter(i, k), model.letter(i, k)); break;
            case 2: k = index(); check("compare(" + i + ", " + k + ")", x.compare(i, k), model.compare(i, k)); break;
            case 3: k = small(3); check("extent(" + i + ", " + k + ")", x.extent(i, k), model.extent(i, k)); break;
            case 4: k = small(4); check("differ(" + k + ")", x.differ(k), model.differ(k)); break;
            case 5: k = small(4); check("twice(" + k + ")", x.twice(k), model.twice(k)); break;
            case 6: case 7: restrictOrAsk(i, which == 6); break;
            case 8: k = heading(); check("name(" + i + ", " + k + ")", x.name(i, k), model.name(i, k)); break;
            case 9: namedOne(heading(), small(3)); break;
            case 10: case 11: case 12: k = index(); check("move(" + i + ", " + k + ")", x.move(i, k), model.move(i, k)); break;
            case 13: k = small(6); check("was(" + i + ", " + k + ")", x.was(i, k), model.was(i, k)); break;
            case 14: publishOne(i, random.nextInt(4) != 0); break;
            case 15: k = small(2); check("ask(" + i + ", " + k + ")", x.ask(i, k), model.ask(i, k)); break;
            case 16: k = small(4); check("take(" + k + ")", x.take(k), model.take(k)); break;
            case 17: check("print()", x.print(), model.print()); break;
            case 18: k = small(200); check("at(" + k + ")", x.at(k), model.at(k)); break;
            default: check("place()", x.place(), model.place()); break;
        }
    }

    private int heading() {
        int[] some = {0, 1, 2, 3, 4, 5, 6, 999, 1000, -1};
        return some[random.nextInt(some.length)];
    }

    private void restrictOrAsk(int i, boolean set) {
        int kind = small(4);
        if (set) {
            int reason = random.nextInt(3) == 0 ? 0 : small(100);
            check("restrict(" + i + ", " + kind + ", " + reason + ")", x.restrict(i, kind, reason), model.restrict(i, kind, reason));
        } else {
            check("restricted(" + i + ", " + kind + ")", x.restricted(i, kind), model.restricted(i, kind));
        }
    }

    private void namedOne(int heading, int j) {
        check("named(" + heading + ", " + j + ")", x.named(heading, j), model.named(heading, j));
    }

    private void publishOne(int i, boolean on) {
        check("published(" + i + ", " + on + ")", x.published(i, on), model.published(i, on));
    }

    /** A right text; few numbers, so that some stand twice, and often one that goes deep. */
    private String tree(int lines) {
        StringBuilder text = new StringBuilder();
        int[] kinds = new int[10];
        int depth = 0;
        boolean deep = random.nextInt(3) == 0;
        for (int n = 0; n < lines; n++) {
            if (n > 0) {
                int most = Math.min(8, kinds[depth] == 3 ? depth : depth + 1);
                depth = deep && random.nextInt(4) != 0 ? Math.max(1, most) : 1 + random.nextInt(Math.max(1, most));
                if (kinds[0] == 3) {
                    return text.toString();
                }
            }
            int least = depth == 0 ? 0 : kinds[depth - 1];
            kinds[depth] = Math.min(3, least + (random.nextInt(3) == 0 ? 1 : 0));
            text.append("+".repeat(depth)).append("fsui".charAt(kinds[depth])).append(number()).append(' ').append(parts()).append('\n');
        }
        return text.toString();
    }

    private int number() {
        return random.nextInt(10) == 0 ? 1 + random.nextInt(9999) : 1 + random.nextInt(3);
    }

    private String parts() {
        StringBuilder parts = new StringBuilder();
        int letters = random.nextInt(12) == 0 ? 16 : 1 + random.nextInt(2);
        for (int k = 0; k < letters; k++) {
            parts.append("abde".charAt(random.nextInt(4)));
        }
        if (random.nextInt(3) == 0) {
            int year = random.nextInt(6) == 0 ? 1000 + random.nextInt(2000) : 1900 + random.nextInt(2);
            parts.append(" d").append(year);
            if (random.nextInt(2) == 0) {
                parts.append('-').append(Math.min(2999, year + random.nextInt(2)));
            }
            parts.append(random.nextInt(2) == 0 ? "?" : "");
        }
        if (random.nextInt(2) == 0) {
            int amount = random.nextInt(6) == 0 ? 1 + random.nextInt(9999) : 1 + random.nextInt(4);
            parts.append(" e").append(amount).append("bmp".charAt(random.nextInt(3)));
        }
        return parts.toString();
    }

    /** The same numbers in the same tree, with other parts here and there. */
    private String varied(String text) {
        StringBuilder other = new StringBuilder();
        for (String line : text.split("\n")) {
            String head = line.substring(0, line.indexOf(' ') + 1);
            other.append(random.nextInt(2) == 0 ? line : head + parts()).append('\n');
        }
        return other.toString();
    }

    private String spoilt(String text) {
        StringBuilder other = new StringBuilder(text);
        for (int n = random.nextInt(2); n >= 0 && other.length() > 0; n--) {
            int k = random.nextInt(other.length());
            char c = SIGNS.charAt(random.nextInt(SIGNS.length()));
            switch (random.nextInt(4)) {
                case 0: other.deleteCharAt(k); break;
                case 1: other.insert(k, c); break;
                case 2: other.setLength(k); break;
                default: other.setCharAt(k, c); break;
            }
        }
        return other.toString();
    }
}
