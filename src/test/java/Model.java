import java.util.ArrayList;
import java.util.HashMap;
import java.util.LinkedHashMap;
import java.util.LinkedHashSet;
import java.util.List;
import java.util.Map;
import java.util.Set;

/**
 * The document told once more, as plainly as the Java library lets it be told, and by other ways than
 * the program's: a text is read by descent into a tree that is done afterwards, and two objects are
 * alike if all that is reachable from them is listed alike.
 */
final class Model {
    private static final String NUMBERS = "xyz";
    private static final String LINKS = "pq";

    private static final class Kind {
        private final int[] first;
        private final int[] least;
        private final int[] greatest;
        private final int links;

        Kind(int numbers, int links) {
            first = new int[numbers];
            least = new int[numbers];
            greatest = new int[numbers];
            java.util.Arrays.fill(least, -1000);
            java.util.Arrays.fill(greatest, 1000);
            this.links = links;
        }
    }

    private static final class Bean {
        private final int kind;
        private final int[] numbers;
        private final Bean[] links;

        Bean(int kind, Kind of) {
            this.kind = kind;
            numbers = of.first.clone();
            links = new Bean[of.links];
        }
    }

    /** An object of a text, with what it says. */
    private static final class Node {
        private int open;
        private int kind;
        private int naming;
        private int id;
        private final List<Said> statements = new ArrayList<>();
    }

    /** A statement of a text; its value is a number, an object, an id, or nothing of these for ~. */
    private static final class Said {
        private int place;
        private char letter;
        private Integer number;
        private Node object;
        private Integer id;
    }

    private static final class WrongText extends Exception {
        private static final long serialVersionUID = 1L;
        private final int place;

        WrongText(int place) {
            this.place = place;
        }
    }

    private final Map<Integer, Kind> kinds = new HashMap<>();
    private final List<Bean> beans = new ArrayList<>();
    private String text = "";
    private List<Integer> failures = new ArrayList<>();
    private int cursor;

    boolean define(int kind, int numbers, int links) {
        if (kind < 0 || kind > 3 || kinds.containsKey(kind) || numbers < 0 || numbers > 3 || links < 0 || links > 2) {
            return false;
        }
        kinds.put(kind, new Kind(numbers, links));
        return true;
    }

    boolean values(int kind, int k, int first, int least, int greatest) {
        Kind of = kinds.get(kind);
        if (of == null || k < 0 || k >= of.first.length) {
            return false;
        }
        if (least < -99999 || greatest > 99999 || !(least <= first && first <= greatest)) {
            return false;
        }
        of.first[k] = first;
        of.least[k] = least;
        of.greatest[k] = greatest;
        return true;
    }

    int make(int kind) {
        if (!kinds.containsKey(kind) || beans.size() == 24) {
            return -1;
        }
        beans.add(new Bean(kind, kinds.get(kind)));
        return beans.size() - 1;
    }

    void clear() {
        beans.clear();
    }

    int count() {
        return beans.size();
    }

    private Bean bean(int o) {
        return o >= 0 && o < beans.size() ? beans.get(o) : null;
    }

    int kind(int o) {
        return bean(o) == null ? -1 : bean(o).kind;
    }

    boolean setNumber(int o, int k, int v) {
        return bean(o) != null && putNumber(bean(o), k, v);
    }

    private boolean putNumber(Bean bean, int k, int v) {
        Kind of = kinds.get(bean.kind);
        if (k < 0 || k >= bean.numbers.length || v < of.least[k] || v > of.greatest[k]) {
            return false;
        }
        bean.numbers[k] = v;
        return true;
    }

    boolean setLink(int o, int k, int to) {
        if (bean(o) == null || k < 0 || k >= bean(o).links.length || to != -1 && bean(to) == null) {
            return false;
        }
        bean(o).links[k] = bean(to);
        return true;
    }

    int number(int o, int k) {
        return bean(o) == null || k < 0 || k >= bean(o).numbers.length ? 0 : bean(o).numbers[k];
    }

    int link(int o, int k) {
        return bean(o) == null || k < 0 || k >= bean(o).links.length ? -1 : beans.indexOf(bean(o).links[k]);
    }

    private Set<Bean> reached(Bean from) {
        Set<Bean> found = new LinkedHashSet<>();
        if (from != null) {
            found.add(from);
        }
        int before = 0;
        while (before != found.size()) {
            before = found.size();
            for (Bean one : List.copyOf(found)) {
                for (Bean to : one.links) {
                    if (to != null) {
                        found.add(to);
                    }
                }
            }
        }
        return found;
    }

    int reachable(int o) {
        return reached(bean(o)).size();
    }

    boolean alike(int a, int b) {
        return bean(a) != null && bean(b) != null && listing(bean(a)).equals(listing(bean(b)));
    }

    private String listing(Bean from) {
        List<Bean> order = new ArrayList<>();
        list(from, order);
        StringBuilder lines = new StringBuilder();
        for (Bean one : order) {
            lines.append(one.kind).append(java.util.Arrays.toString(one.numbers));
            for (Bean to : one.links) {
                lines.append(' ').append(order.indexOf(to));
            }
            lines.append('\n');
        }
        return lines.toString();
    }

    private void list(Bean one, List<Bean> order) {
        if (one == null || order.contains(one)) {
            return;
        }
        order.add(one);
        for (Bean to : one.links) {
            list(to, order);
        }
    }

    int write(int r) {
        if (bean(r) == null) {
            return -1;
        }
        int[] deepest = {0};
        StringBuilder draft = new StringBuilder();
        write(bean(r), bean(r), new LinkedHashMap<>(), draft, 0, deepest);
        if (deepest[0] >= 10) {
            return -2;
        }
        if (draft.length() > 300) {
            return -3;
        }
        text = draft.toString();
        return text.length();
    }

    /** Those that were begun have the id of theirs, or null if they are not shared. */
    private void write(Bean root, Bean one, Map<Bean, Integer> begun, StringBuilder out, int inside, int[] deepest) {
        deepest[0] = Math.max(deepest[0], inside);
        out.append('(').append("abcd".charAt(one.kind));
        Integer id = null;
        if (isShared(root, one)) {
            id = (int) begun.values().stream().filter(i -> i != null).count();
            out.append('#').append(id);
        }
        begun.put(one, id);
        for (int k = 0; k < one.numbers.length; k++) {
            if (one.numbers[k] != kinds.get(one.kind).first[k]) {
                out.append(NUMBERS.charAt(k)).append('=').append(one.numbers[k]);
            }
        }
        for (int k = 0; k < one.links.length; k++) {
            Bean to = one.links[k];
            if (to == null) {
                continue;
            }
            out.append(LINKS.charAt(k)).append('=');
            if (begun.containsKey(to)) {
                out.append('@').append(begun.get(to).intValue());
            } else {
                write(root, to, begun, out, inside + 1, deepest);
            }
        }
        out.append(')');
    }

    private boolean isShared(Bean root, Bean one) {
        int leads = one == root ? 1 : 0;
        for (Bean from : reached(root)) {
            for (Bean to : from.links) {
                leads += to == one ? 1 : 0;
            }
        }
        return leads >= 2;
    }

    boolean type(char c) {
        if (c < 32 || c > 126 || text.length() == 300) {
            return false;
        }
        text += c;
        return true;
    }

    void wipe() {
        text = "";
    }

    int length() {
        return text.length();
    }

    int at(int place) {
        return place >= 1 && place <= text.length() ? text.charAt(place - 1) : -1;
    }

    int read() {
        Node outermost;
        try {
            cursor = 0;
            outermost = parseObject(0);
            if (cursor < text.length()) {
                throw new WrongText(cursor + 1);
            }
        } catch (WrongText wrong) {
            return -1000 - wrong.place;
        }
        failures = new ArrayList<>();
        Bean made = carryOut(outermost, new HashMap<>());
        return beans.indexOf(made);
    }

    private boolean sees(String anyOf) {
        return cursor < text.length() && anyOf.indexOf(text.charAt(cursor)) >= 0;
    }

    private char take(String anyOf) throws WrongText {
        if (!sees(anyOf)) {
            throw new WrongText(cursor + 1);
        }
        cursor++;
        return text.charAt(cursor - 1);
    }

    private int takeDigits(int most) throws WrongText {
        String digits = "" + take("0123456789");
        while (digits.length() < most && sees("0123456789")) {
            digits += take("0123456789");
        }
        return Integer.parseInt(digits);
    }

    private Node parseObject(int inside) throws WrongText {
        Node node = new Node();
        node.open = cursor + 1;
        take(inside > 9 ? "" : "(");
        node.kind = take("abcd") - 'a';
        if (sees("#")) {
            node.naming = cursor + 1;
            take("#");
            node.id = takeDigits(2);
        }
        while (!sees(")")) {
            node.statements.add(parseStatement(inside));
        }
        take(")");
        return node;
    }

    private Said parseStatement(int inside) throws WrongText {
        Said said = new Said();
        said.place = cursor + 1;
        said.letter = take("xyzpq");
        take("=");
        if (NUMBERS.indexOf(said.letter) >= 0) {
            int sign = 1;
            if (sees("-")) {
                take("-");
                sign = -1;
            }
            said.number = sign * takeDigits(5);
        } else if (sees("@")) {
            take("@");
            said.id = takeDigits(2);
        } else if (sees("~")) {
            take("~");
        } else {
            said.object = parseObject(inside + 1);
        }
        return said;
    }

    private Bean carryOut(Node node, Map<Integer, Bean> named) {
        Bean made = bean(make(node.kind));
        if (made == null) {
            failures.add(node.open);
        }
        if (node.naming > 0) {
            if (made == null || named.containsKey(node.id)) {
                failures.add(node.naming);
            } else {
                named.put(node.id, made);
            }
        }
        for (Said said : node.statements) {
            if (!carryOut(made, said, named)) {
                failures.add(said.place);
            }
        }
        return made;
    }

    private boolean carryOut(Bean in, Said said, Map<Integer, Bean> named) {
        if (said.number != null) {
            return in != null && putNumber(in, NUMBERS.indexOf(said.letter), said.number);
        }
        Bean to = null;
        if (said.object != null) {
            to = carryOut(said.object, named);
        } else if (said.id != null) {
            to = named.get(said.id);
        }
        boolean valueFailed = to == null && (said.object != null || said.id != null);
        int k = LINKS.indexOf(said.letter);
        if (in == null || valueFailed || k >= in.links.length) {
            return false;
        }
        in.links[k] = to;
        return true;
    }

    int failures() {
        return failures.size();
    }

    int failure(int k) {
        return k >= 0 && k < failures.size() ? failures.get(k) : 0;
    }
}
