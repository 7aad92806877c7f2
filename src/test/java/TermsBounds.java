import java.util.Arrays;

/** The sentences of "Terms" on kinds, objects, what is reachable and alike, the text, and writing. */
final class TermsBounds {
    private static final String PART = "Terms";
    private static final String ALIKE = "Two objects a and b are ALIKE if what is reachable from a can be"
        + " paired with what is reachable from b, each with exactly one, a with b, so that two that are"
        + " paired are of one kind, have the same numbers, and each link of the one is NONE if that of the"
        + " other is, and else both lead to two that are paired.";
    private static final String PROPERTIES = "A kind that is DEFINED has 0 to 3 NUMBERS (0, 1, 2, with the"
        + " letters x, y, z) and 0 to 2 LINKS (0, 1, with the letters p, q); these are its PROPERTIES, the"
        + " numbers first.";
    private static final String OBJECT_FOR = "The object for o: its kind's letter; if o is SHARED, # and its"
        + " id; for each of its numbers that is not the default of now, in order, a statement; for each of its"
        + " links that is not NONE, in order, a statement: if the object to which it leads was begun already,"
        + " @ and its id, else the object for it.";
    private static final String IDS = "Ids are 0, 1, .. in the order in which shared objects are begun.";
    private static final String SHARED = "An object is SHARED if two or more links of reachable objects lead"
        + " to it; r also if one does.";

    private final Sentences s;

    TermsBounds(Sentences s) {
        this.s = s;
    }

    void run() {
        kindsAre0To3();
        howManyNumbers();
        howManyLinks();
        propertyLetters();
        numbersAtFirst();
        atMost24Objects();
        numbersInOrderOfMaking();
        madeWithDefaultsOfNow();
        linksLeadAnywhere();
        reachable();
        alikeAWithB();
        alikeEachWithExactlyOne();
        alikeKindsAndNumbers();
        alikeLinksThatAreNone();
        alikeLinksToPairs();
        textHasAtMost300();
        textHas32To126();
        placesFrom1();
        writingReplacesTheText();
        objectForO();
        linksBegunAlready();
        writtenNumbers();
        idsInOrderOfBeginning();
        allObjectsWithIds();
        sharedByTwo();
        sharedRoot();
    }

    private void of(String words) {
        s.of(PART, words);
    }

    private void kindsAre0To3() {
        of("KINDS are 0 .. 3, with the letters a .. d.");
        ReplayedBeans beans = new ReplayedBeans();
        s.due("define(-1, 1, 1)", beans.define(-1, 1, 1), false);
        s.due("define(4, 1, 1)", beans.define(4, 1, 1), false);
        for (int kind = 0; kind <= 3; kind++) {
            s.due("define(" + kind + ", 1, 1)", beans.define(kind, 1, 1), true);
            s.due("make(" + kind + ")", beans.make(kind), kind);
            s.dueWritten(beans, kind, "(" + "abcd".charAt(kind) + ")");
        }
        s.due("make(-1)", beans.make(-1), -1);
        s.due("make(4)", beans.make(4), -1);
        for (int kind = 0; kind <= 3; kind++) {
            s.dueRead(beans, "(" + "abcd".charAt(kind) + ")", 4 + kind, "");
            s.due("its kind", beans.kind(4 + kind), kind);
        }
        s.due("the letter before a", Check.readAll(beans, "(`)"), -1002);
        s.due("the letter after d", Check.readAll(beans, "(e)"), -1002);
    }

    private void howManyNumbers() {
        of(PROPERTIES);
        for (int numbers = 0; numbers <= 3; numbers++) {
            ReplayedBeans beans = Check.withKinds(numbers, 2);
            beans.make(0);
            for (int k = -1; k <= 4; k++) {
                boolean there = k >= 0 && k < numbers;
                s.due("number " + k + " of " + numbers, beans.setNumber(0, k, 5), there);
                s.due("number(0, " + k + ") of " + numbers, beans.number(0, k), there ? 5 : 0);
            }
        }
        s.due("a kind with -1 numbers", new ReplayedBeans().define(0, -1, 0), false);
        s.due("a kind with 4 numbers", new ReplayedBeans().define(0, 4, 0), false);
    }

    private void howManyLinks() {
        of(PROPERTIES);
        for (int links = 0; links <= 2; links++) {
            ReplayedBeans beans = Check.withKinds(3, links);
            beans.make(0);
            for (int k = -1; k <= 3; k++) {
                boolean there = k >= 0 && k < links;
                s.due("link " + k + " of " + links, beans.setLink(0, k, 0), there);
                s.due("link(0, " + k + ") of " + links, beans.link(0, k), there ? 0 : -1);
            }
        }
        s.due("a kind with -1 links", new ReplayedBeans().define(0, 0, -1), false);
        s.due("a kind with 3 links", new ReplayedBeans().define(0, 0, 3), false);
    }

    private void propertyLetters() {
        of(PROPERTIES);
        ReplayedBeans beans = Check.withKinds(3, 2);
        beans.make(0);
        beans.make(0);
        beans.setLink(0, 1, 1);
        beans.setLink(0, 0, 1);
        beans.setNumber(0, 2, 3);
        beans.setNumber(0, 1, 2);
        beans.setNumber(0, 0, 1);
        s.dueWritten(beans, 0, "(ax=1y=2z=3p=(a#0)q=@0)");
        s.dueRead(beans, "(a#0q=(a)p=@0z=6y=5x=4)", 2, "");
        s.dueObject(beans, 2, "0: 4 5 6, 2 3");
        for (char letter : "w{or".toCharArray()) {
            s.due("letter " + letter, Check.readAll(beans, "(a" + letter + "=1)"), -1003);
        }
    }

    private void numbersAtFirst() {
        of("Each number of a kind has a DEFAULT, a LEAST and a GREATEST value (0, -1000 and 1000 at first).");
        ReplayedBeans beans = Check.withKinds(3, 0, 3, 0, 3, 0, 3, 0);
        for (int o = 0; o <= 3; o++) {
            beans.make(o);
            for (int k = 0; k <= 2; k++) {
                String which = "number " + k + " of kind " + o + ": ";
                s.due(which + "default", beans.number(o, k), 0);
                s.due(which + "-1001", beans.setNumber(o, k, -1001), false);
                s.due(which + "-1000", beans.setNumber(o, k, -1000), true);
                s.due(which + "1001", beans.setNumber(o, k, 1001), false);
                s.due(which + "1000", beans.setNumber(o, k, 1000), true);
            }
        }
        s.dueRead(beans, "(dx=-1000y=1000z=-1001z=1001)", 4, "16 23");
    }

    private void atMost24Objects() {
        of("OBJECTS have the numbers 0, 1, .. in the order of their making; at most 24.");
        ReplayedBeans beans = Check.withKinds(1, 1);
        Check.makeMany(beans, 0, 23);
        s.due("the 24th", beans.make(0), 23);
        s.due("the 25th", beans.make(0), -1);
        s.due("count()", beans.count(), 24);
        s.dueRead(beans, "(a)", -1, "1");
        s.due("count() after reading", beans.count(), 24);
        s.due("kind(23)", beans.kind(23), 0);
        s.due("kind(24)", beans.kind(24), -1);
        ReplayedBeans read = Check.withKinds(1, 1);
        s.dueRead(read, "(a" + "p=(a)".repeat(23) + ")", 0, "");
        s.due("read 24 at once", read.count(), 24);
        s.due("the last of them", read.link(0, 0), 23);
        ReplayedBeans more = Check.withKinds(1, 1);
        s.dueRead(more, "(a" + "p=(a)".repeat(24) + ")", 0, "120 118");
        s.due("read 25 at once", more.count(), 24);
        s.due("the last of those", more.link(0, 0), 23);
    }

    private void numbersInOrderOfMaking() {
        of("OBJECTS have the numbers 0, 1, .. in the order of their making; at most 24.");
        ReplayedBeans beans = Check.withKinds(1, 2, 1, 2);
        s.due("the first", beans.make(1), 0);
        s.due("the second", beans.make(0), 1);
        s.dueRead(beans, "(ax=1q=(bx=2p=(ax=3))p=(bx=4))", 2, "");
        s.dueObject(beans, 2, "0: 1 0 0, 5 3");
        s.dueObject(beans, 3, "1: 2 0 0, 4 -1");
        s.dueObject(beans, 4, "0: 3 0 0, -1 -1");
        s.dueObject(beans, 5, "1: 4 0 0, -1 -1");
        s.due("the next", beans.make(0), 6);
        beans.clear();
        s.due("after clear()", beans.make(0), 0);
    }

    private void madeWithDefaultsOfNow() {
        of("An object is of a defined kind; its numbers are the defaults of now, and its links are NONE,"
            + " when it is made.");
        ReplayedBeans beans = Check.withKinds(3, 2);
        s.due("make(1)", beans.make(1), -1);
        beans.make(0);
        s.dueObject(beans, 0, "0: 0 0 0, -1 -1");
        for (int k = 0; k <= 2; k++) {
            beans.setNumber(0, k, 50 + k);
            beans.values(0, k, 7 + k, 0, 60);
        }
        beans.setLink(0, 0, 0);
        beans.setLink(0, 1, 0);
        beans.make(0);
        s.dueObject(beans, 1, "0: 7 8 9, -1 -1");
        Check.readAll(beans, "(a)");
        s.dueObject(beans, 2, "0: 7 8 9, -1 -1");
        beans.values(0, 1, 60, 60, 60);
        beans.clear();
        beans.make(0);
        s.dueObject(beans, 0, "0: 7 60 9, -1 -1");
        Check.readAll(beans, "(a)");
        s.dueObject(beans, 1, "0: 7 60 9, -1 -1");
    }

    private void linksLeadAnywhere() {
        of("A link leads to an object (perhaps the same one), or is NONE.");
        ReplayedBeans beans = Check.withKinds(0, 2);
        Check.makeMany(beans, 0, 24);
        for (int k = 0; k <= 1; k++) {
            for (int to : new int[] {23, 0, 1, -1}) {
                s.due("link " + k + " to " + to, beans.setLink(0, k, to), true);
                s.due("link(0, " + k + ")", beans.link(0, k), to);
                s.due("link " + k + " of 23 to " + to, beans.setLink(23, k, to), true);
                s.due("link(23, " + k + ")", beans.link(23, k), to);
            }
            s.due("link " + k + " to 24", beans.setLink(0, k, 24), false);
            s.due("link " + k + " to -2", beans.setLink(0, k, -2), false);
        }
    }

    private void reachable() {
        of("REACHABLE from an object are this one and those to which links lead from reachable ones.");
        ReplayedBeans beans = Check.withKinds(0, 2);
        Check.makeMany(beans, 0, 24);
        s.due("this one alone", beans.reachable(0), 1);
        beans.setLink(0, 1, 0);
        s.due("led to by itself", beans.reachable(0), 1);
        beans.setLink(0, 0, 5);
        beans.setLink(0, 1, 5);
        s.due("led to twice", beans.reachable(0), 2);
        s.due("not against a link", beans.reachable(5), 1);
        beans.setLink(0, 0, -1);
        beans.setLink(0, 1, -1);
        for (int o = 0; o < 23; o++) {
            beans.setLink(o, o % 2, o + 1);
        }
        s.due("all 24", beans.reachable(0), 24);
        s.due("all but the first", beans.reachable(1), 23);
        s.due("the last", beans.reachable(23), 1);
        beans.setLink(23, 0, 0);
        s.due("all 24 from the last", beans.reachable(23), 24);
    }

    private void alikeAWithB() {
        of(ALIKE);
        ReplayedBeans beans = Check.withKinds(1, 1);
        beans.make(0);
        beans.make(0);
        beans.setLink(0, 0, 1);
        beans.setLink(1, 0, 0);
        s.due("two of a ring", beans.alike(0, 1), true);
        beans.setNumber(1, 0, 1);
        s.due("the same two are reachable, but a goes with b", beans.alike(0, 1), false);
        s.due("an object with itself", beans.alike(1, 1), true);
    }

    private void alikeEachWithExactlyOne() {
        of(ALIKE);
        ReplayedBeans beans = Check.withKinds(0, 2);
        Check.makeMany(beans, 0, 8);
        beans.setLink(0, 0, 1);
        beans.setLink(0, 1, 1);
        beans.setLink(2, 0, 3);
        beans.setLink(2, 1, 4);
        s.due("one object for two", beans.alike(0, 2), false);
        s.due("two objects for one", beans.alike(2, 0), false);
        beans.setLink(5, 0, 6);
        beans.setLink(6, 0, 6);
        s.due("one that leads to a loop, and the loop", beans.alike(5, 6), false);
        s.due("a loop, and one that leads to it", beans.alike(6, 5), false);
        beans.setLink(7, 0, 6);
        s.due("both lead to one loop", beans.alike(5, 7), true);
    }

    private void alikeKindsAndNumbers() {
        of(ALIKE);
        ReplayedBeans beans = Check.withKinds(3, 1, 3, 1);
        Check.makeMany(beans, 0, 22);
        Check.makeMany(beans, 1, 2);
        s.due("two kinds", beans.alike(0, 22), false);
        Check.chain(beans, 0, 0, 10);
        Check.chain(beans, 0, 11, 21);
        s.due("two long chains", beans.alike(0, 11), true);
        for (int k = 0; k <= 2; k++) {
            beans.setNumber(21, k, 1);
            s.due("the last of them has another number " + k, beans.alike(0, 11), false);
            beans.setNumber(10, k, 1);
            s.due("both last ones have number " + k, beans.alike(0, 11), true);
        }
        beans.setLink(9, 0, 22);
        beans.setLink(20, 0, 20);
        s.due("another kind at the end", beans.alike(0, 11), false);
        beans.setLink(20, 0, 23);
        s.due("that kind at both ends", beans.alike(0, 11), true);
    }

    private void alikeLinksThatAreNone() {
        of(ALIKE);
        for (int k = 0; k <= 1; k++) {
            ReplayedBeans beans = Check.withKinds(0, 2);
            Check.makeMany(beans, 0, 3);
            beans.setLink(0, k, 2);
            s.due("link " + k + " of b alone is NONE", beans.alike(0, 1), false);
            s.due("link " + k + " of a alone is NONE", beans.alike(1, 0), false);
            beans.setLink(1, 1 - k, 2);
            s.due("they have other links", beans.alike(0, 1), false);
            beans.setLink(1, 1 - k, -1);
            beans.setLink(1, k, 2);
            s.due("both have link " + k, beans.alike(0, 1), true);
        }
    }

    private void alikeLinksToPairs() {
        of(ALIKE);
        ReplayedBeans beans = Check.withKinds(0, 2);
        Check.makeMany(beans, 0, 6);
        Check.chain(beans, 0, 0, 2);
        Check.chain(beans, 0, 3, 5);
        beans.setLink(2, 1, 0);
        beans.setLink(5, 1, 4);
        s.due("back to others", beans.alike(0, 3), false);
        beans.setLink(5, 1, 0);
        s.due("back to the other's first", beans.alike(0, 3), false);
        beans.setLink(5, 1, 3);
        s.due("back to those that are paired", beans.alike(0, 3), true);
    }

    private void textHasAtMost300() {
        of("THE TEXT has at most 300 characters, 32 .. 126.");
        ReplayedBeans typed = new ReplayedBeans();
        Check.typeAll(typed, "u".repeat(299));
        s.due("the 300th", typed.type('v'), true);
        s.due("the 301st", typed.type('w'), false);
        s.due("length()", typed.length(), 300);
        ReplayedBeans written = longest();
        s.due("write(0) of 300", written.write(0), 300);
        s.due("length() of 300", written.length(), 300);
        s.due("type() after 300", written.type('u'), false);
        written.setNumber(10, 0, -12345);
        s.due("write(0) of 301", written.write(0), -3);
        written.setNumber(10, 0, 1234);
        s.due("write(0) of 299", written.write(0), 299);
        s.due("type() after 299", written.type('u'), true);
        s.due("type() after 300", written.type('u'), false);
    }

    /** Object 0 is written with 300 characters, "x=12345))" at the end; number 0 of object 10 is that x. */
    static ReplayedBeans longest() {
        ReplayedBeans beans = Check.withKinds(3, 2);
        for (int k = 0; k <= 2; k++) {
            beans.values(0, k, 0, -99999, 99999);
        }
        Check.makeMany(beans, 0, 11);
        Check.chain(beans, 0, 0, 9);
        for (int o = 0; o <= 9; o++) {
            for (int k = 0; k <= 2; k++) {
                beans.setNumber(o, k, -99999);
            }
        }
        beans.setLink(0, 1, 10);
        beans.setNumber(10, 0, 12345);
        return beans;
    }

    private void textHas32To126() {
        of("THE TEXT has at most 300 characters, 32 .. 126.");
        ReplayedBeans beans = new ReplayedBeans();
        int[] refused = {0, 9, 10, 31, 127, 128, 160, 255, 256 + 40, 65535};
        for (int c : refused) {
            s.due("type " + c, beans.type((char) c), false);
        }
        s.due("length() after those", beans.length(), 0);
        for (int c = 32; c <= 126; c++) {
            s.due("type " + c, beans.type((char) c), true);
            s.due("at(" + (c - 31) + ")", beans.at(c - 31), c);
        }
        s.due("length()", beans.length(), 95);
    }

    private void placesFrom1() {
        of("Its places are 1, 2, ..");
        ReplayedBeans beans = new ReplayedBeans();
        Check.typeAll(beans, "stu");
        s.due("at(-1)", beans.at(-1), -1);
        s.due("at(0)", beans.at(0), -1);
        s.due("at(1)", beans.at(1), 's');
        s.due("at(2)", beans.at(2), 't');
        s.due("at(3)", beans.at(3), 'u');
        s.due("at(4)", beans.at(4), -1);
    }

    private void writingReplacesTheText() {
        of("WRITING object r: the text becomes an object for r.");
        ReplayedBeans beans = Check.withKinds(1, 1);
        beans.make(0);
        beans.make(0);
        beans.setNumber(1, 0, -1000);
        s.dueWritten(beans, 0, "(a)");
        s.dueWritten(beans, 1, "(ax=-1000)");
        s.dueWritten(beans, 0, "(a)");
        s.due("at(4)", beans.at(4), -1);
        beans.wipe();
        Check.typeAll(beans, "u".repeat(300));
        s.dueWritten(beans, 1, "(ax=-1000)");
    }

    private void objectForO() {
        of(OBJECT_FOR);
        ReplayedBeans beans = Check.withKinds(3, 2, 0, 0);
        beans.values(0, 1, 5, 0, 9);
        beans.make(0);
        s.dueWritten(beans, 0, "(a)");
        beans.setNumber(0, 1, 0);
        s.dueWritten(beans, 0, "(ay=0)");
        beans.values(0, 1, 0, 0, 9);
        s.dueWritten(beans, 0, "(a)");
        beans.values(0, 1, 9, 9, 9);
        s.dueWritten(beans, 0, "(ay=0)");
        beans.make(1);
        beans.setLink(0, 1, 1);
        s.dueWritten(beans, 0, "(ay=0q=(b))");
        beans.setLink(0, 0, 0);
        beans.setNumber(0, 2, 1);
        beans.setNumber(0, 0, 2);
        s.dueWritten(beans, 0, "(a#0x=2y=0z=1p=@0q=(b))");
        beans.setLink(0, 1, -1);
        beans.setLink(0, 0, -1);
        s.dueWritten(beans, 0, "(ax=2y=0z=1)");
    }

    private void linksBegunAlready() {
        of(OBJECT_FOR);
        ReplayedBeans beans = Check.withKinds(1, 2);
        Check.makeMany(beans, 0, 3);
        beans.setNumber(2, 0, 2);
        beans.setLink(0, 0, 1);
        beans.setLink(0, 1, 2);
        beans.setLink(1, 1, 2);
        s.dueWritten(beans, 0, "(ap=(aq=(a#0x=2))q=@0)");
        beans.setLink(2, 0, 1);
        s.dueWritten(beans, 0, "(ap=(a#0q=(a#1x=2p=@0))q=@1)");
        beans.setLink(1, 1, -1);
        s.dueWritten(beans, 0, "(ap=(a#0)q=(ax=2p=@0))");
        s.dueWritten(beans, 2, "(ax=2p=(a))");
    }

    private void writtenNumbers() {
        of("Numbers are written without zeros in front, with - if less than 0, and 0 as 0.");
        ReplayedBeans beans = Check.withKinds(1, 0);
        beans.values(0, 0, 5, -99999, 99999);
        beans.make(0);
        beans.setNumber(0, 0, 0);
        s.dueWritten(beans, 0, "(ax=0)");
        int[] sizes = {1, 9, 10, 11, 99, 100, 909, 999, 1000, 9999, 10000, 90009, 99999};
        for (int size : sizes) {
            beans.setNumber(0, 0, size);
            s.dueWritten(beans, 0, "(ax=" + size + ")");
            beans.setNumber(0, 0, -size);
            s.dueWritten(beans, 0, "(ax=-" + size + ")");
        }
    }

    private void idsInOrderOfBeginning() {
        of(IDS);
        ReplayedBeans beans = Check.withKinds(0, 2);
        Check.makeMany(beans, 0, 5);
        beans.setLink(4, 0, 3);
        beans.setLink(4, 1, 1);
        beans.setLink(3, 0, 2);
        beans.setLink(3, 1, 0);
        beans.setLink(2, 0, 2);
        beans.setLink(1, 0, 0);
        beans.setLink(1, 1, 1);
        s.dueWritten(beans, 4, "(ap=(ap=(a#0p=@0)q=(a#1))q=(a#2p=@1q=@2))");
        beans.setLink(2, 1, 4);
        s.dueWritten(beans, 4, "(a#0p=(ap=(a#1p=@1q=@0)q=(a#2))q=(a#3p=@2q=@3))");
    }

    /**
     * Objects 0 .. 10 lead to two each and 11 to one; 12 .. 23 lead back, so that all are shared.
     * The ids go from 0 over 9 and 10 to 23.
     */
    private void allObjectsWithIds() {
        of(IDS);
        ReplayedBeans beans = Check.withKinds(0, 2);
        Check.makeMany(beans, 0, 24);
        int[] backTo = backLinks();
        for (int o = 0; o < 24; o++) {
            beans.setLink(o, 0, o <= 11 ? 2 * o + 1 : o);
            beans.setLink(o, 1, o <= 10 ? 2 * o + 2 : backTo[o]);
        }
        StringBuilder want = new StringBuilder();
        addWanted(want, 0, backTo, new int[24], 0);
        s.due("how long it is", want.length(), 290);
        s.due("the last id is in it", want.indexOf("(a#23") > 0, true);
        s.dueWritten(beans, 0, want.toString());
    }

    /** To which object link 1 of each leads that has no second one below it: itself or one above it. */
    private static int[] backLinks() {
        int[] backTo = new int[24];
        Arrays.fill(backTo, -1);
        backTo[11] = 11;
        for (int o = 0; o <= 10; o++) {
            int below = 2 * o + 2;
            while (below <= 11) {
                below = 2 * below + 1;
            }
            backTo[below] = o;
        }
        return backTo;
    }

    private static int addWanted(StringBuilder want, int o, int[] backTo, int[] idOf, int id) {
        idOf[o] = id;
        int next = id + 1;
        want.append("(a#").append(id);
        if (o <= 11) {
            want.append("p=");
            next = addWanted(want, 2 * o + 1, backTo, idOf, next);
        } else {
            want.append("p=@").append(id);
        }
        if (o <= 10) {
            want.append("q=");
            next = addWanted(want, 2 * o + 2, backTo, idOf, next);
        } else if (backTo[o] >= 0) {
            want.append("q=@").append(idOf[backTo[o]]);
        }
        want.append(")");
        return next;
    }

    private void sharedByTwo() {
        of(SHARED);
        ReplayedBeans beans = Check.withKinds(0, 2);
        Check.makeMany(beans, 0, 4);
        beans.setLink(0, 0, 1);
        s.dueWritten(beans, 0, "(ap=(a))");
        beans.setLink(3, 0, 1);
        beans.setLink(3, 1, 1);
        s.dueWritten(beans, 0, "(ap=(a))");
        beans.setLink(0, 1, 1);
        s.dueWritten(beans, 0, "(ap=(a#0)q=@0)");
        beans.setLink(0, 1, 2);
        s.dueWritten(beans, 0, "(ap=(a)q=(a))");
        beans.setLink(2, 1, 1);
        s.dueWritten(beans, 0, "(ap=(a#0)q=(aq=@0))");
        beans.setLink(2, 1, -1);
        beans.setLink(1, 0, 1);
        s.dueWritten(beans, 0, "(ap=(a#0p=@0)q=(a))");
        beans.setLink(2, 0, 3);
        s.dueWritten(beans, 0, "(ap=(a#0p=@0)q=(ap=(ap=@0q=@0)))");
    }

    private void sharedRoot() {
        of(SHARED);
        ReplayedBeans beans = Check.withKinds(0, 2);
        Check.makeMany(beans, 0, 3);
        s.dueWritten(beans, 0, "(a)");
        beans.setLink(2, 0, 0);
        s.dueWritten(beans, 0, "(a)");
        beans.setLink(0, 0, 1);
        beans.setLink(1, 0, 0);
        s.dueWritten(beans, 0, "(a#0p=(ap=@0))");
        s.dueWritten(beans, 1, "(a#0p=(ap=@0))");
        s.dueWritten(beans, 2, "(ap=(a#0p=(ap=@0)))");
        beans.setLink(0, 1, 0);
        s.dueWritten(beans, 0, "(a#0p=(ap=@0)q=@0)");
        beans.setLink(1, 0, -1);
        s.dueWritten(beans, 0, "(a#0p=(a)q=@0)");
    }
}
