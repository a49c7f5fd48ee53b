import java.util.ArrayList;
import java.util.Comparator;
import java.util.List;
import java.util.TreeMap;

/**
 * The document once more, written the other way round: one object a level, recursion, and a text
 * read by a machine of states that is fed sign by sign. ModelTest compares it with the class.
 */
final class Model {
    static final int THROWS = Due.THROWS;
    private static final String KINDS = "fsui";
    private static final String UNITS = "bmp";

    static final class Node {
        int id;
        int kind;
        int number;
        Node parent;
        final List<Node> children = new ArrayList<>();
        String title = "";
        List<Integer> years = List.of();
        boolean unsure;
        int extent = -1;
        int unit = -1;
        boolean published = true;
        final TreeMap<Integer, Integer> restrictions = new TreeMap<>();
        final List<Integer> headings = new ArrayList<>();
        final List<Integer> befores = new ArrayList<>();

        int depth() {
            return parent == null ? 0 : parent.depth() + 1;
        }

        int height() {
            return children.stream().mapToInt(c -> c.height() + 1).max().orElse(0);
        }

        boolean under(Node top) {
            return parent != null && (parent == top || parent.under(top));
        }

        boolean shown() {
            return published && (parent == null || parent.shown());
        }

        String path() {
            return (parent == null ? "" : parent.path()) + "/" + number;
        }

        int extentIn(int u) {
            return unit == u ? extent : sumBelow(u);
        }

        int sumBelow(int u) {
            return children.stream().mapToInt(c -> c.extentIn(u)).sum();
        }

        int reason(int k) {
            Integer own = restrictions.get(k);
            return own != null ? own : parent == null ? 0 : parent.reason(k);
        }

        String date() {
            if (years.isEmpty()) {
                return "";
            }
            String last = years.get(0).equals(years.get(1)) ? "" : "-" + years.get(1);
            return " d" + years.get(0) + last + (unsure ? "?" : "");
        }

        String size() {
            return unit < 0 ? "" : " e" + extent + UNITS.charAt(unit);
        }

        String text() {
            if (!published) {
                return "";
            }
            StringBuilder all = new StringBuilder("+".repeat(depth()));
            all.append(KINDS.charAt(kind)).append(number).append(' ').append(title).append(date()).append(size()).append('\n');
            List<Node> order = new ArrayList<>(children);
            order.sort(Comparator.<Node>comparingInt(c -> c.number).thenComparingInt(c -> c.id));
            order.forEach(c -> all.append(c.text()));
            return all.toString();
        }
    }

    /** What is wanted next; each sign is held against it alone. */
    enum Want { PLUS_OR_KIND, NUMBER, TITLE, PART, DATE, AFTER_YEAR, AFTER_SECOND, AFTER_DOUBT, EXTENT, LAST_PART, E, LINE_END }

    /** Reads a text sign by sign; `place` is where it went wrong, or -1. */
    static final class Machine {
        final List<Node> nodes = new ArrayList<>();
        int place = -1;
        private final String text;
        private Want want = Want.PLUS_OR_KIND;
        private int plus = 0;
        private String word = "";
        private int lineStart = 0;
        private Node node;

        Machine(String text) {
            this.text = text;
            for (int k = 0; k < text.length() && place < 0; k++) {
                feed(text.charAt(k), k);
            }
            if (place < 0 && (text.isEmpty() || want != Want.PLUS_OR_KIND || plus > 0)) {
                place = text.length();
            }
        }

        private void feed(char c, int k) {
            boolean fits;
            switch (want) {
                case PLUS_OR_KIND: fits = plusOrKind(c, k); break;
                case NUMBER: fits = digits(c, ' ', Want.TITLE); break;
                case TITLE: fits = titleSign(c); break;
                case PART: fits = to(c, 'd', Want.DATE) || to(c, 'e', Want.EXTENT); break;
                case DATE: fits = yearSign(c, k); break;
                case AFTER_YEAR: fits = to(c, '-', Want.DATE) || doubt(c) || endOfDate(c); break;
                case AFTER_SECOND: fits = doubt(c) || endOfDate(c); break;
                case AFTER_DOUBT: fits = endOfDate(c); break;
                case E: fits = to(c, 'e', Want.EXTENT); break;
                case EXTENT: fits = extentSign(c); break;
                default: fits = lineEnd(c); break;
            }
            if (!fits && place < 0) {
                place = k;
            }
        }

        private boolean to(char c, char wanted, Want next) {
            if (c != wanted) {
                return false;
            }
            want = next;
            word = "";
            return true;
        }

        private boolean plusOrKind(char c, int k) {
            if (plus == 0) {
                lineStart = k;
            }
            if (nodes.size() == 100) {
                place = lineStart;
                return false;
            }
            Node before = nodes.isEmpty() ? null : nodes.get(nodes.size() - 1);
            if (c == '+') {
                plus++;
                return before != null && plus <= 8 && plus <= before.depth() + 1;
            }
            Node above = before;
            while (above != null && above.depth() != plus - 1) {
                above = above.parent;
            }
            int kind = KINDS.indexOf(c);
            if (kind < 0 || (above == null) != nodes.isEmpty() || above != null && (above.kind == 3 || kind < above.kind)) {
                return false;
            }
            node = new Node();
            node.id = nodes.size();
            node.kind = kind;
            node.parent = above;
            if (above != null) {
                above.children.add(node);
            }
            nodes.add(node);
            word = "";
            want = Want.NUMBER;
            return true;
        }

        private boolean digits(char c, char behind, Want next) {
            if (Character.isDigit(c) && c < 128 && word.length() < 4 && (c != '0' || !word.isEmpty())) {
                word += c;
                return true;
            }
            if (c != behind || word.isEmpty()) {
                return false;
            }
            node.number = Integer.parseInt(word);
            want = next;
            return true;
        }

        private boolean titleSign(char c) {
            if (String.valueOf(c).matches("[a-z]") && node.title.length() < 16) {
                node.title += c;
                return true;
            }
            return !node.title.isEmpty() && (to(c, ' ', Want.PART) || lineEnd(c));
        }

        private boolean yearSign(char c, int k) {
            if (!String.valueOf(c).matches("[0-9]")) {
                return false;
            }
            word += c;
            if (word.length() < 4) {
                return true;
            }
            int year = Integer.parseInt(word);
            boolean second = !node.years.isEmpty();
            if (year < (second ? node.years.get(0) : 1000) || year > 2999) {
                place = k - 3;
                return false;
            }
            node.years = List.of(second ? node.years.get(0) : year, year);
            want = second ? Want.AFTER_SECOND : Want.AFTER_YEAR;
            return true;
        }

        private boolean doubt(char c) {
            node.unsure = c == '?';
            return to(c, '?', Want.AFTER_DOUBT);
        }

        private boolean endOfDate(char c) {
            if (want == Want.AFTER_DOUBT) {
                node.unsure = true;
            }
            return to(c, ' ', Want.E) || lineEnd(c);
        }

        private boolean extentSign(char c) {
            if (c >= '0' && c <= '9' && word.length() < 4 && !(word + c).startsWith("0")) {
                word += c;
                return true;
            }
            node.unit = UNITS.indexOf(c);
            if (word.isEmpty() || node.unit < 0) {
                return false;
            }
            node.extent = Integer.parseInt(word);
            want = Want.LINE_END;
            return true;
        }

        private boolean lineEnd(char c) {
            plus = 0;
            return to(c, '\n', Want.PLUS_OR_KIND);
        }
    }

    record Ask(Node mine, Node theirs, int bits, boolean[] taken) { }

    private final StringBuilder told = new StringBuilder();
    private int place = -1;
    private List<Node> nodes = new ArrayList<>();
    private List<Ask> asks = new ArrayList<>();
    private String printed = "";

    private Node get(int i) {
        return i >= 0 && i < nodes.size() ? nodes.get(i) : null;
    }

    private static int id(Node node) {
        return node == null ? -1 : node.id;
    }

    private static int nth(List<Node> list, int i) {
        return i >= 0 && i < list.size() ? list.get(i).id : -1;
    }

    void sign(int c) {
        if (told.length() < 3000) {
            told.append((char) (((c % 256) + 256) % 256));
        }
    }

    private Machine machine() {
        Machine m = new Machine(told.toString());
        told.setLength(0);
        place = m.place;
        return m;
    }

    int read() {
        Machine m = machine();
        if (m.place >= 0) {
            return THROWS;
        }
        nodes = m.nodes;
        return nodes.size();
    }

    int place() {
        return place;
    }

    int level(int i, int what) {
        Node n = get(i);
        if (n == null) {
            return -1;
        }
        int[] all = {n.kind, n.number, id(n.parent), n.depth(), n.years.isEmpty() ? -1 : n.years.get(0),
            n.years.isEmpty() ? -1 : n.years.get(1), n.unsure ? 1 : 0, n.extent, n.unit, n.title.length()};
        return what >= 0 && what < all.length ? all[what] : -1;
    }

    int letter(int i, int k) {
        Node n = get(i);
        return n == null || k < 0 || k >= n.title.length() ? -1 : n.title.charAt(k);
    }

    int compare(int a, int b) {
        Node p = get(a);
        Node q = get(b);
        if (p == null || q == null) {
            return -2;
        }
        return Integer.signum(key(p).compareTo(key(q)));
    }

    private static String key(Node n) {
        return n.years.isEmpty() ? "none" : n.years.get(0) + " " + n.years.get(1) + (n.unsure ? "?" : "");
    }

    int extent(int i, int unit) {
        Node n = get(i);
        return n == null ? -1 : unit < 0 || unit > 2 ? -2 : n.extentIn(unit);
    }

    int differ(int i) {
        return nth(nodes.stream().filter(n -> n.unit >= 0
                && n.children.stream().anyMatch(c -> c.extentIn(n.unit) != 0)
                && n.sumBelow(n.unit) != n.extent).toList(), i);
    }

    int twice(int i) {
        return nth(nodes.stream().filter(n -> n.parent != null
                && n.parent.children.stream().anyMatch(c -> c.id < n.id && c.number == n.number)).toList(), i);
    }

    int restrict(int i, int kind, int reason) {
        Node n = get(i);
        if (n == null) {
            return -1;
        }
        if (kind < 0 || kind > 3 || reason < 0 || reason > 99) {
            return -2;
        }
        n.restrictions.remove(kind);
        if (reason > 0) {
            n.restrictions.put(kind, reason);
        }
        return 1;
    }

    int restricted(int i, int kind) {
        Node n = get(i);
        return n == null ? -1 : kind < 0 || kind > 3 ? -2 : n.reason(kind);
    }

    int name(int i, int heading) {
        Node n = get(i);
        if (n == null) {
            return -1;
        }
        if (heading < 1 || heading > 999) {
            return -2;
        }
        if (n.headings.contains(heading)) {
            return -3;
        }
        if (n.headings.size() == 4) {
            return -4;
        }
        n.headings.add(heading);
        return n.headings.size();
    }

    int named(int heading, int j) {
        return nth(nodes.stream().filter(n -> n.headings.contains(heading)).toList(), j);
    }

    int move(int i, int under) {
        Node n = get(i);
        Node to = get(under);
        if (n == null || to == null) {
            return -1;
        }
        if (i == 0 || n == to || to.under(n) || to.kind > n.kind || to.kind == 3 || to.depth() + 1 + n.height() > 8) {
            return -3;
        }
        n.befores.add(n.parent.id);
        n.parent.children.remove(n);
        n.parent = to;
        to.children.add(n);
        return 1;
    }

    int was(int i, int j) {
        Node n = get(i);
        return n == null || j < 0 || j >= Math.min(5, n.befores.size()) ? -1 : n.befores.get(j);
    }

    int published(int i, boolean on) {
        Node n = get(i);
        if (n == null) {
            return -1;
        }
        n.published = on;
        return n.shown() ? 1 : 0;
    }

    int merge() {
        Machine m = machine();
        if (m.place >= 0) {
            return THROWS;
        }
        asks = new ArrayList<>();
        for (Node theirs : m.nodes) {
            Node mine = nodes.stream().filter(n -> n.path().equals(theirs.path())).findFirst().orElse(null);
            if (mine != null) {
                int bits = (mine.title.equals(theirs.title) ? 0 : 1) + (mine.date().equals(theirs.date()) ? 0 : 2)
                        + (mine.size().equals(theirs.size()) ? 0 : 4);
                if (bits != 0) {
                    asks.add(new Ask(mine, theirs, bits, new boolean[1]));
                }
            }
        }
        return asks.size();
    }

    int ask(int i, int what) {
        if (i < 0 || i >= asks.size() || what < 0 || what > 1) {
            return -1;
        }
        return what == 0 ? asks.get(i).mine().id : asks.get(i).bits();
    }

    int take(int i) {
        if (i < 0 || i >= asks.size()) {
            return -1;
        }
        Ask a = asks.get(i);
        if (a.taken()[0] || !nodes.contains(a.mine())) {
            return 0;
        }
        a.taken()[0] = true;
        a.mine().title = a.theirs().title;
        a.mine().years = a.theirs().years;
        a.mine().unsure = a.theirs().unsure;
        a.mine().extent = a.theirs().extent;
        a.mine().unit = a.theirs().unit;
        return 1;
    }

    int print() {
        printed = nodes.isEmpty() ? "" : nodes.get(0).text();
        return printed.length();
    }

    int at(int i) {
        return i < 0 || i >= printed.length() ? -1 : printed.charAt(i);
    }

    int size() {
        return nodes.size();
    }
}
