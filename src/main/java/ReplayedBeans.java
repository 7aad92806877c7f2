import java.util.Arrays;

/**
 * Keeps objects that hold numbers and lead to one another, writes what can be reached from one of
 * them as a text, and builds objects anew by doing what such a text says.
 *
 * <p>All rows are made with the object and used again: no call makes anything.
 */
public final class ReplayedBeans {
    public static final int NONE = -1, TOO_DEEP = -2, TOO_LONG = -3;

    private static final int MOST_KINDS = 4;
    private static final int MOST_NUMBERS = 3;
    private static final int MOST_LINKS = 2;
    private static final int MOST_OBJECTS = 24;
    private static final int MOST_CHARACTERS = 300;
    private static final int MOST_LEVELS = 10;
    private static final int MOST_NUMBER_DIGITS = 5;
    private static final int MOST_ID_DIGITS = 2;
    private static final int MOST_IDS = 100;
    private static final int WIDEST_NUMBER = 99999;

    private final Kinds kinds;
    private final Beans beans;
    private final Reach reach;
    private final Pairing pairing;
    private final Text text;
    private final Writer writer;
    private final Grammar grammar;
    private final Replay replay;

    public ReplayedBeans() {
        kinds = new Kinds();
        beans = new Beans(kinds);
        reach = new Reach(beans);
        pairing = new Pairing(beans);
        text = new Text();
        writer = new Writer(kinds, beans, reach);
        grammar = new Grammar(text);
        replay = new Replay(beans, text);
    }

    public boolean define(int kind, int numbers, int links) {
        return kinds.introduce(kind, numbers, links);
    }

    public boolean values(int kind, int k, int first, int least, int greatest) {
        return kinds.bound(kind, k, first, least, greatest);
    }

    public int make(int kind) {
        return beans.add(kind);
    }

    public void clear() {
        beans.removeAll();
    }

    public int count() {
        return beans.size;
    }

    public int kind(int o) {
        return beans.kindOf(o);
    }

    public boolean setNumber(int o, int k, int v) {
        return beans.putNumber(o, k, v);
    }

    public boolean setLink(int o, int k, int to) {
        return beans.putLink(o, k, to);
    }

    public int number(int o, int k) {
        return beans.numberOf(o, k);
    }

    public int link(int o, int k) {
        return beans.linkOf(o, k);
    }

    public int reachable(int o) {
        reach.spreadFrom(o);
        return reach.found;
    }

    public boolean alike(int a, int b) {
        return pairing.pairsUp(a, b);
    }

    public int write(int r) {
        if (!beans.isThere(r)) {
            return NONE;
        }
        writer.draftFrom(r);
        if (writer.tooDeep) {
            return TOO_DEEP;
        }
        if (writer.tooLong) {
            return TOO_LONG;
        }
        text.copyFrom(writer.draft);
        return text.size;
    }

    public boolean type(char c) {
        return text.add(c);
    }

    public void wipe() {
        text.size = 0;
    }

    public int length() {
        return text.size;
    }

    public int at(int place) {
        return text.codeAt(place);
    }

    public int read() {
        int wrong = grammar.wrongPlace();
        if (wrong != 0) {
            return -1000 - wrong;
        }
        return replay.run();
    }

    public int failures() {
        return replay.failed;
    }

    public int failure(int k) {
        return replay.failedPlace(k);
    }

    /** Which kinds are defined, and what their numbers may be. */
    private static final class Kinds {
        private final boolean[] defined = new boolean[MOST_KINDS];
        private final int[] numbers = new int[MOST_KINDS];
        private final int[] links = new int[MOST_KINDS];
        private final int[] first = new int[MOST_KINDS * MOST_NUMBERS];
        private final int[] least = new int[MOST_KINDS * MOST_NUMBERS];
        private final int[] greatest = new int[MOST_KINDS * MOST_NUMBERS];

        Kinds() {
            Arrays.fill(least, -1000);
            Arrays.fill(greatest, 1000);
        }

        boolean isDefined(int kind) {
            return kind >= 0 && kind < MOST_KINDS && defined[kind];
        }

        // A kind that is not defined has no numbers and no links, so these two need not ask for it.
        boolean hasNumber(int kind, int k) {
            return kind >= 0 && kind < MOST_KINDS && k >= 0 && k < numbers[kind];
        }

        boolean hasLink(int kind, int k) {
            return kind >= 0 && kind < MOST_KINDS && k >= 0 && k < links[kind];
        }

        boolean introduce(int kind, int numberCount, int linkCount) {
            if (kind < 0 || kind >= MOST_KINDS || defined[kind]) {
                return false;
            }
            if (numberCount < 0 || numberCount > MOST_NUMBERS) {
                return false;
            }
            if (linkCount < 0 || linkCount > MOST_LINKS) {
                return false;
            }
            defined[kind] = true;
            numbers[kind] = numberCount;
            links[kind] = linkCount;
            return true;
        }

        boolean bound(int kind, int k, int newFirst, int newLeast, int newGreatest) {
            if (!hasNumber(kind, k)) {
                return false;
            }
            if (newLeast < -WIDEST_NUMBER || newGreatest > WIDEST_NUMBER) {
                return false;
            }
            if (newFirst < newLeast || newFirst > newGreatest) {
                return false;
            }
            int slot = kind * MOST_NUMBERS + k;
            first[slot] = newFirst;
            least[slot] = newLeast;
            greatest[slot] = newGreatest;
            return true;
        }

        int defaultOf(int kind, int k) {
            return hasNumber(kind, k) ? first[kind * MOST_NUMBERS + k] : 0;
        }

        boolean allows(int kind, int k, int v) {
            if (!hasNumber(kind, k)) {
                return false;
            }
            int slot = kind * MOST_NUMBERS + k;
            return v >= least[slot] && v <= greatest[slot];
        }
    }

    /** The objects; every question about one that is not there has an answer. */
    private static final class Beans {
        private final Kinds kinds;
        private final int[] kindRow = new int[MOST_OBJECTS];
        private final int[] numberRow = new int[MOST_OBJECTS * MOST_NUMBERS];
        private final int[] linkRow = new int[MOST_OBJECTS * MOST_LINKS];
        private int size;

        Beans(Kinds kinds) {
            this.kinds = kinds;
        }

        boolean isThere(int o) {
            return o >= 0 && o < size;
        }

        int add(int kind) {
            if (!kinds.isDefined(kind) || size >= MOST_OBJECTS) {
                return NONE;
            }
            int o = size;
            kindRow[o] = kind;
            for (int k = 0; k < MOST_NUMBERS; k++) {
                numberRow[o * MOST_NUMBERS + k] = kinds.defaultOf(kind, k);
            }
            for (int k = 0; k < MOST_LINKS; k++) {
                linkRow[o * MOST_LINKS + k] = NONE;
            }
            size++;
            return o;
        }

        void removeAll() {
            size = 0;
        }

        int kindOf(int o) {
            return isThere(o) ? kindRow[o] : NONE;
        }

        boolean putNumber(int o, int k, int v) {
            if (!kinds.allows(kindOf(o), k, v)) {
                return false;
            }
            numberRow[o * MOST_NUMBERS + k] = v;
            return true;
        }

        boolean putLink(int o, int k, int to) {
            if (!kinds.hasLink(kindOf(o), k)) {
                return false;
            }
            if (to != NONE && !isThere(to)) {
                return false;
            }
            linkRow[o * MOST_LINKS + k] = to;
            return true;
        }

        int numberOf(int o, int k) {
            return kinds.hasNumber(kindOf(o), k) ? numberRow[o * MOST_NUMBERS + k] : 0;
        }

        int linkOf(int o, int k) {
            return kinds.hasLink(kindOf(o), k) ? linkRow[o * MOST_LINKS + k] : NONE;
        }

        boolean sameKindAndNumbers(int a, int b) {
            if (kindOf(a) != kindOf(b)) {
                return false;
            }
            for (int k = 0; k < MOST_NUMBERS; k++) {
                if (numberOf(a, k) != numberOf(b, k)) {
                    return false;
                }
            }
            return true;
        }
    }

    /** The objects that are reachable from one, in the order in which they were found. */
    private static final class Reach {
        private final Beans beans;
        private final int[] order = new int[MOST_OBJECTS];
        private final boolean[] seen = new boolean[MOST_OBJECTS];
        private int found;

        Reach(Beans beans) {
            this.beans = beans;
        }

        void spreadFrom(int o) {
            for (int i = 0; i < MOST_OBJECTS; i++) {
                seen[i] = false;
            }
            found = 0;
            visit(o);
            for (int next = 0; next < MOST_OBJECTS && next < found; next++) {
                for (int k = 0; k < MOST_LINKS; k++) {
                    visit(beans.linkOf(order[next], k));
                }
            }
        }

        private void visit(int o) {
            if (beans.isThere(o) && !seen[o]) {
                seen[o] = true;
                order[found] = o;
                found++;
            }
        }
    }

    /**
     * Whether two objects are alike. Links have an order, so the pair at the top forces every other
     * pair: following both sides at once finds the only pairing there can be.
     */
    private static final class Pairing {
        private final Beans beans;
        private final int[] order = new int[MOST_OBJECTS];
        private final int[] rightOf = new int[MOST_OBJECTS];
        private final int[] leftOf = new int[MOST_OBJECTS];
        private int paired;

        Pairing(Beans beans) {
            this.beans = beans;
        }

        boolean pairsUp(int a, int b) {
            if (!beans.isThere(a) || !beans.isThere(b)) {
                return false;
            }
            Arrays.fill(rightOf, NONE);
            Arrays.fill(leftOf, NONE);
            paired = 0;
            if (!join(a, b)) {
                return false;
            }
            for (int next = 0; next < MOST_OBJECTS && next < paired; next++) {
                int left = order[next];
                if (!linksPairUp(left, rightOf[left])) {
                    return false;
                }
            }
            return true;
        }

        private boolean linksPairUp(int left, int right) {
            for (int k = 0; k < MOST_LINKS; k++) {
                if (!joinOrBothNone(beans.linkOf(left, k), beans.linkOf(right, k))) {
                    return false;
                }
            }
            return true;
        }

        private boolean joinOrBothNone(int left, int right) {
            if (!beans.isThere(left) || !beans.isThere(right)) {
                return left == right;
            }
            return join(left, right);
        }

        private boolean join(int left, int right) {
            if (rightOf[left] != NONE || leftOf[right] != NONE) {
                return rightOf[left] == right;
            }
            if (!beans.sameKindAndNumbers(left, right)) {
                return false;
            }
            rightOf[left] = right;
            leftOf[right] = left;
            order[paired] = left;
            paired++;
            return true;
        }
    }

    /** At most 300 characters, with places from 1. */
    private static final class Text {
        private final char[] characters = new char[MOST_CHARACTERS];
        private int size;

        boolean add(char c) {
            if (c < 32 || c > 126 || size >= MOST_CHARACTERS) {
                return false;
            }
            characters[size] = c;
            size++;
            return true;
        }

        int codeAt(int place) {
            return place >= 1 && place <= size ? characters[place - 1] : NONE;
        }

        void copyFrom(Text other) {
            System.arraycopy(other.characters, 0, characters, 0, other.size);
            size = other.size;
        }
    }

    /** Writes to a draft, so that the text stays when the writing turns out too deep or too long. */
    private static final class Writer {
        private final Kinds kinds;
        private final Beans beans;
        private final Reach reach;
        private final Text draft = new Text();
        private final int[] linksTo = new int[MOST_OBJECTS];
        private final int[] idOf = new int[MOST_OBJECTS];
        private final boolean[] begun = new boolean[MOST_OBJECTS];
        private int root;
        private int ids;
        private boolean tooDeep;
        private boolean tooLong;

        Writer(Kinds kinds, Beans beans, Reach reach) {
            this.kinds = kinds;
            this.beans = beans;
            this.reach = reach;
        }

        void draftFrom(int r) {
            draft.size = 0;
            root = r;
            ids = 0;
            tooDeep = false;
            tooLong = false;
            for (int o = 0; o < MOST_OBJECTS; o++) {
                begun[o] = false;
            }
            countLinks();
            putObject(r, 1);
        }

        private void countLinks() {
            Arrays.fill(linksTo, 0);
            reach.spreadFrom(root);
            for (int i = 0; i < reach.found; i++) {
                for (int k = 0; k < MOST_LINKS; k++) {
                    int to = beans.linkOf(reach.order[i], k);
                    if (beans.isThere(to)) {
                        linksTo[to]++;
                    }
                }
            }
        }

        private boolean isShared(int o) {
            return linksTo[o] >= (o == root ? 1 : 2);
        }

        private void putObject(int o, int level) {
            if (level > MOST_LEVELS) {
                tooDeep = true;
                return;
            }
            begun[o] = true;
            put('(');
            put((char) ('a' + beans.kindOf(o)));
            if (isShared(o)) {
                idOf[o] = ids;
                ids++;
                put('#');
                putWhole(idOf[o]);
            }
            putNumbers(o);
            for (int k = 0; k < MOST_LINKS; k++) {
                int to = beans.linkOf(o, k);
                if (beans.isThere(to)) {
                    putLinkStatement(k, to, level);
                }
            }
            put(')');
        }

        private void putNumbers(int o) {
            int kind = beans.kindOf(o);
            for (int k = 0; k < MOST_NUMBERS; k++) {
                int v = beans.numberOf(o, k);
                if (v != kinds.defaultOf(kind, k)) {
                    put((char) ('x' + k));
                    put('=');
                    putWhole(v);
                }
            }
        }

        private void putLinkStatement(int k, int to, int level) {
            put((char) ('p' + k));
            put('=');
            if (begun[to]) {
                put('@');
                putWhole(idOf[to]);
            } else {
                putObject(to, level + 1);
            }
        }

        private void putWhole(int v) {
            if (v < 0) {
                put('-');
            }
            int size = v < 0 ? -v : v;
            int unit = 1;
            for (int digits = 1; digits < MOST_NUMBER_DIGITS && size / unit >= 10; digits++) {
                unit *= 10;
            }
            for (; unit > 0; unit /= 10) {
                put((char) ('0' + size / unit % 10));
            }
        }

        // The drafting goes on past the end: being too deep further on goes before being too long.
        private void put(char c) {
            if (!draft.add(c)) {
                tooLong = true;
            }
        }
    }

    /** Finds where a text stops being the beginning of an object, one character after another. */
    private static final class Grammar {
        private static final int OPENING = 0;
        private static final int KIND_LETTER = 1;
        private static final int NAMING_OR_BODY = 2;
        private static final int BODY = 3;
        private static final int NUMBER_EQUALS = 4;
        private static final int LINK_EQUALS = 5;
        private static final int NUMBER_VALUE = 6;
        private static final int LINK_VALUE = 7;
        private static final int DIGIT = 8;
        private static final int DIGIT_OR_BODY = 9;
        private static final int END = 10;
        private static final int REFUSED = 11;

        private final Text text;
        private int due;
        private int open;
        private int digitsLeft;

        Grammar(Text text) {
            this.text = text;
        }

        /** 0 when the text is an object. */
        int wrongPlace() {
            due = OPENING;
            open = 0;
            digitsLeft = 0;
            for (int place = 1; place <= text.size; place++) {
                due = dueAfter(text.codeAt(place));
                if (due == REFUSED) {
                    return place;
                }
            }
            return due == END ? 0 : text.size + 1;
        }

        private int dueAfter(int c) {
            switch (due) {
                case OPENING:
                    return c == '(' ? opened() : REFUSED;
                case KIND_LETTER:
                    return c >= 'a' && c <= 'd' ? NAMING_OR_BODY : REFUSED;
                case NAMING_OR_BODY:
                    return c == '#' ? idDigits() : afterBody(c);
                case BODY:
                    return afterBody(c);
                case NUMBER_EQUALS:
                    return c == '=' ? NUMBER_VALUE : REFUSED;
                case LINK_EQUALS:
                    return c == '=' ? LINK_VALUE : REFUSED;
                case NUMBER_VALUE:
                    digitsLeft = MOST_NUMBER_DIGITS;
                    return c == '-' ? DIGIT : afterDigit(c);
                case LINK_VALUE:
                    return afterLinkValue(c);
                case DIGIT:
                    return afterDigit(c);
                case DIGIT_OR_BODY:
                    return isDigit(c) ? afterDigit(c) : afterBody(c);
                default:
                    return REFUSED;
            }
        }

        private int opened() {
            if (open >= MOST_LEVELS) {
                return REFUSED;
            }
            open++;
            return KIND_LETTER;
        }

        private int closed() {
            open--;
            return open == 0 ? END : BODY;
        }

        private int idDigits() {
            digitsLeft = MOST_ID_DIGITS;
            return DIGIT;
        }

        private int afterDigit(int c) {
            if (!isDigit(c) || digitsLeft <= 0) {
                return REFUSED;
            }
            digitsLeft--;
            return DIGIT_OR_BODY;
        }

        private int afterBody(int c) {
            if (isProperty(c)) {
                return isNumberLetter(c) ? NUMBER_EQUALS : LINK_EQUALS;
            }
            return c == ')' ? closed() : REFUSED;
        }

        private int afterLinkValue(int c) {
            switch (c) {
                case '(':
                    return opened();
                case '@':
                    return idDigits();
                case '~':
                    return BODY;
                default:
                    return REFUSED;
            }
        }

        static boolean isDigit(int c) {
            return c >= '0' && c <= '9';
        }

        static boolean isNumberLetter(int c) {
            return c >= 'x' && c <= 'z';
        }

        static boolean isProperty(int c) {
            return isNumberLetter(c) || c == 'p' || c == 'q';
        }
    }

    /** Does what a text says that is an object, and keeps the places of what failed. */
    private static final class Replay {
        // A link's value that is no object, yet not NONE either: no link takes it.
        private static final int FAILED = -2;

        private final Beans beans;
        private final Text text;
        private final int[] named = new int[MOST_IDS];
        private final int[] failedPlaces = new int[MOST_CHARACTERS];
        private int failed;
        private int place;

        Replay(Beans beans, Text text) {
            this.beans = beans;
            this.text = text;
        }

        int run() {
            Arrays.fill(named, NONE);
            failed = 0;
            place = 1;
            return replayObject(1);
        }

        int failedPlace(int k) {
            return k >= 0 && k < failed ? failedPlaces[k] : 0;
        }

        private void fail(int where) {
            if (failed < MOST_CHARACTERS) {
                failedPlaces[failed] = where;
                failed++;
            }
        }

        /** The object that was made, or NONE when that failed. */
        private int replayObject(int level) {
            if (level > MOST_LEVELS) {
                return NONE;
            }
            int made = beans.add(text.codeAt(place + 1) - 'a');
            if (made == NONE) {
                fail(place);
            }
            place += 2;
            if (text.codeAt(place) == '#') {
                replayNaming(made);
            }
            for (int i = 0; i < MOST_CHARACTERS && Grammar.isProperty(text.codeAt(place)); i++) {
                replayStatement(made, level);
            }
            place++;
            return made;
        }

        private void replayNaming(int made) {
            int where = place;
            place++;
            int id = replayDigits(MOST_ID_DIGITS);
            if (made == NONE || named[id] != NONE) {
                fail(where);
            } else {
                named[id] = made;
            }
        }

        private void replayStatement(int o, int level) {
            int where = place;
            int letter = text.codeAt(place);
            place += 2;
            boolean done;
            if (Grammar.isNumberLetter(letter)) {
                done = beans.putNumber(o, letter - 'x', replayNumber());
            } else {
                done = beans.putLink(o, letter - 'p', replayLinkValue(level));
            }
            if (!done) {
                fail(where);
            }
        }

        private int replayNumber() {
            boolean negative = text.codeAt(place) == '-';
            if (negative) {
                place++;
            }
            int size = replayDigits(MOST_NUMBER_DIGITS);
            return negative ? -size : size;
        }

        private int replayLinkValue(int level) {
            int c = text.codeAt(place);
            if (c == '(') {
                return orFailed(replayObject(level + 1));
            }
            place++;
            if (c == '@') {
                return orFailed(named[replayDigits(MOST_ID_DIGITS)]);
            }
            return NONE;
        }

        private int orFailed(int o) {
            return o == NONE ? FAILED : o;
        }

        private int replayDigits(int most) {
            int value = 0;
            for (int i = 0; i < most && Grammar.isDigit(text.codeAt(place)); i++) {
                value = value * 10 + text.codeAt(place) - '0';
                place++;
            }
            return value;
        }
    }
}
