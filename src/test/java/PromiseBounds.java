import java.util.Arrays;

/** The sentences of the promises, each with its last inputs that are taken and first that are refused. */
final class PromiseBounds {
    private static final int LOWEST = Integer.MIN_VALUE;
    private static final int HIGHEST = Integer.MAX_VALUE;
    private static final String WHAT_IT_IS = "Keeps objects that hold numbers and lead to one another, writes"
        + " what can be reached from one of them as a text that says only what a new object does not show by"
        + " itself, and builds objects anew by doing what such a text says, piece by piece, past what fails.";
    private static final String NEW = "No kind is defined; no objects; the text is empty; nothing was read.";
    private static final String DEFINE = "Defines a kind; false, changing nothing, when kind is not 0 .. 3, it"
        + " is defined, numbers is not 0 .. 3 or links not 0 .. 2.";
    private static final String VALUES = "Gives number k of a kind its default, least and greatest value"
        + " (objects that are there keep their numbers).";
    private static final String VALUES_REFUSED = "False, changing nothing, when the kind is not defined or has"
        + " no number k, least is less than -99999, greatest more than 99999, or least <= first <= greatest"
        + " does not hold.";
    private static final String MAKE = "Makes an object of a kind: its number; NONE when the kind is not"
        + " defined or 24 are there.";
    private static final String SET_NUMBER = "Number k of object o becomes v; false, changing nothing, when"
        + " there is no such object or number, or v is less than the least or more than the greatest of now.";
    private static final String SET_LINK = "Link k of object o leads to object to from now on, or becomes"
        + " NONE; false, changing nothing, when there is no such object or link, or to is neither an object"
        + " nor NONE.";
    private static final String WRITE_REFUSED = "NONE when there is no such object; TOO_DEEP when an object"
        + " would stand inside of ten others, else TOO_LONG when there would be more than 300 characters; the"
        + " text stays then.";
    private static final String TYPE = "Adds a character to the text; false, changing nothing, when c is not"
        + " 32 .. 126 or there are 300.";
    private static final String READ = "Reads the text: the number of the object that its outermost object"
        + " made, NONE if that failed; when it is no object, 1000 times -1, less the place.";
    private static final String FAILURES = "How many failures the latest reading of a text that was an object"
        + " had; 0 when there was none.";
    private static final String FAILURE = "The place of failure k (from 0) of that reading; 0 when there is"
        + " none.";

    private final Sentences s;

    PromiseBounds(Sentences s) {
        this.s = s;
    }

    void run() {
        keepsWritesAndBuildsAnew();
        buildsPastWhatFails();
        the512thCall();
        noKindIsDefined();
        noObjectsNoTextNothingRead();
        newOnesHaveNothingInCommon();
        definesKinds();
        defineLeavesOtherKinds();
        defineRefusesKinds();
        defineRefusesWhatIsDefined();
        defineRefusesNumbers();
        defineRefusesLinks();
        givesValues();
        objectsKeepTheirNumbers();
        valuesRefuseKindsAndNumbers();
        valuesRefuseLeast();
        valuesRefuseGreatest();
        valuesRefuseFirst();
        makes();
        makeRefusesKinds();
        makeRefusesThe25th();
        clears();
        counts();
        kindOfObjects();
        setsNumbers();
        setNumberRefusesObjectsAndNumbers();
        setNumberRefusesValues();
        setNumberGoesByBoundsOfNow();
        setsLinks();
        setLinkRefusesObjectsAndLinks();
        setLinkRefusesWhereTo();
        numberOfObjects();
        linkOfObjects();
        howManyAreReachable();
        alikeOrNotThere();
        writes();
        writeRefusesObjects();
        writeRefusesDepth();
        writeRefusesLength();
        writeIsTooDeepBeforeTooLong();
        types();
        typeRefusesCharacters();
        typeRefusesThe301st();
        wipes();
        lengths();
        characterAtPlaces();
        readsObjects();
        readsFailed();
        readsNoObject();
        failuresOfTheLatestReading();
        failuresUntilTheNextReading();
        failuresOfNoReading();
        placesOfFailures();
    }

    private void due(String call, boolean got, boolean want) {
        s.due(call, got, want);
    }

    private void due(String call, int got, int want) {
        s.due(call, got, want);
    }

    /** Kind a with all properties and two objects, kind b with none and one object; a text that was read. */
    private static void some(ReplayedBeans beans) {
        beans.define(0, 3, 2);
        beans.define(1, 0, 0);
        beans.define(2, 1, 1);
        beans.values(0, 0, 5, 2, 8);
        Check.readAll(beans, "(ay=6p=(az=1001)q=(b#3))");
        beans.setLink(1, 1, 0);
    }

    /** That a call which only asks leaves all as it was. */
    private void onlyAsks(String call, Sentences.Calls asking) {
        s.changesNothing(call, beans -> {
            some(beans);
            beans.make(1);
        }, asking);
    }

    /** Three objects in a ring, of which one has a number that is not the default. */
    private static ReplayedBeans ring() {
        ReplayedBeans beans = Check.withKinds(2, 2, 1, 1);
        beans.make(0);
        beans.make(1);
        beans.make(0);
        beans.setLink(0, 1, 1);
        beans.setLink(1, 0, 2);
        beans.setLink(2, 0, 0);
        beans.setNumber(2, 1, -5);
        return beans;
    }

    private void keepsWritesAndBuildsAnew() {
        s.of("What it is", WHAT_IT_IS);
        ReplayedBeans from = ring();
        from.make(0);
        String text = "(a#0q=(bp=(ay=-5p=@0)))";
        s.dueWritten(from, 0, text);
        due("what can't be reached is not built", from.read(), 4);
        due("count()", from.count(), 7);
        due("alike(0, 4)", from.alike(0, 4), true);
        ReplayedBeans other = Check.withKinds(2, 2, 1, 1);
        s.dueRead(other, text, 0, "");
        s.dueWritten(other, 0, text);
        from.values(0, 1, -5, -9, 9);
        s.dueWritten(from, 0, "(a#0y=0q=(bp=(ap=@0)))");
        s.dueWritten(from, 3, "(ay=0)");
        due("with the defaults of now", from.read(), 7);
        s.dueObject(from, 7, "0: 0 0 0, -1 -1");
        from.make(0);
        s.dueWritten(from, 8, "(a)");
    }

    private void buildsPastWhatFails() {
        s.of("What it is", WHAT_IT_IS);
        ReplayedBeans from = ring();
        from.setLink(0, 0, 2);
        String text = "(a#0p=(a#1y=-5p=@0)q=(bp=@1))";
        s.dueWritten(from, 0, text);
        ReplayedBeans withoutB = Check.withKinds(2, 2);
        s.dueRead(withoutB, text, 0, "22 24 20");
        s.dueWritten(withoutB, 0, "(a#0p=(ay=-5p=@0))");
        ReplayedBeans withoutY = Check.withKinds(1, 2, 0, 1);
        s.dueRead(withoutY, text, 0, "11");
        s.dueWritten(withoutY, 0, "(a#0p=(a#1p=@0)q=(bp=@1))");
        ReplayedBeans withoutA = new ReplayedBeans();
        withoutA.define(1, 0, 1);
        s.dueRead(withoutA, text, -1, "1 3 7 9 11 15 5 24 20");
        s.dueObject(withoutA, 0, "1: 0 0 0, -1 -1");
    }

    private void the512thCall() {
        s.of("What it is", "An object is used for at most 512 calls after it has been made; what later calls"
            + " answer is free.");
        ReplayedBeans beans = new ReplayedBeans();
        beans.define(0, 1, 1);
        for (int call = 2; call <= 509; call++) {
            beans.type(' ');
        }
        due("the 510th call", beans.length(), 300);
        due("the 511th call", beans.make(0), 0);
        due("the 512th call", beans.write(0), 3);
    }

    private void noKindIsDefined() {
        s.of("Promise 1", NEW);
        for (int kind = 0; kind <= 3; kind++) {
            ReplayedBeans beans = new ReplayedBeans();
            due("make(" + kind + ")", beans.make(kind), -1);
            due("values(" + kind + ", 0, 0, 0, 0)", beans.values(kind, 0, 0, 0, 0), false);
            s.dueRead(beans, "(" + "abcd".charAt(kind) + ")", -1, "1");
            due("define(" + kind + ", 3, 2)", beans.define(kind, 3, 2), true);
        }
    }

    private void noObjectsNoTextNothingRead() {
        s.of("Promise 1", NEW);
        ReplayedBeans beans = new ReplayedBeans();
        due("count()", beans.count(), 0);
        due("kind(0)", beans.kind(0), -1);
        due("number(0, 0)", beans.number(0, 0), 0);
        due("link(0, 0)", beans.link(0, 0), -1);
        due("reachable(0)", beans.reachable(0), 0);
        due("alike(0, 0)", beans.alike(0, 0), false);
        due("write(0)", beans.write(0), -1);
        due("length()", beans.length(), 0);
        due("at(1)", beans.at(1), -1);
        due("failures()", beans.failures(), 0);
        due("failure(0)", beans.failure(0), 0);
        due("read()", beans.read(), -1001);
        due("failures() after it", beans.failures(), 0);
    }

    private void newOnesHaveNothingInCommon() {
        s.of("Promise 1", NEW);
        ReplayedBeans other = new ReplayedBeans();
        s.changesNothing("calls on another object", beans -> { }, beans -> some(other));
    }

    private void definesKinds() {
        s.of("Promise 2", DEFINE);
        for (int kind = 0; kind <= 3; kind++) {
            for (int numbers = 0; numbers <= 3; numbers++) {
                for (int links = 0; links <= 2; links++) {
                    String call = "define(" + kind + ", " + numbers + ", " + links + ")";
                    ReplayedBeans beans = new ReplayedBeans();
                    due(call, beans.define(kind, numbers, links), true);
                    due("make() after " + call, beans.make(kind), 0);
                    due("last number after " + call, beans.setNumber(0, numbers - 1, 1), numbers > 0);
                    due("next number after " + call, beans.setNumber(0, numbers, 1), false);
                    due("last link after " + call, beans.setLink(0, links - 1, 0), links > 0);
                    due("next link after " + call, beans.setLink(0, links, 0), false);
                }
            }
        }
    }

    private void defineLeavesOtherKinds() {
        s.of("Promise 2", DEFINE);
        for (int kind = 0; kind <= 3; kind++) {
            ReplayedBeans beans = new ReplayedBeans();
            beans.define(kind, 3, 2);
            for (int k = 0; k <= 2; k++) {
                beans.values(kind, k, 20 + k, 10 + k, 30 + k);
            }
            for (int other = 0; other <= 3; other++) {
                due("define(" + other + ", 1, 0)", beans.define(other, 1, 0), other != kind);
            }
            beans.make(kind);
            s.dueObject(beans, 0, kind + ": 20 21 22, -1 -1");
            for (int k = 0; k <= 2; k++) {
                due("below its least", beans.setNumber(0, k, 9 + k), false);
                due("above its greatest", beans.setNumber(0, k, 31 + k), false);
            }
            due("its last link", beans.setLink(0, 1, 0), true);
        }
    }

    private void refusedDefine(int kind, int numbers, int links) {
        String call = "define(" + kind + ", " + numbers + ", " + links + ")";
        s.changesNothing(call, beans -> { }, beans -> due(call, beans.define(kind, numbers, links), false));
        s.changesNothing(call, PromiseBounds::some,
            beans -> due(call + " later", beans.define(kind, numbers, links), false));
    }

    private void defineRefusesKinds() {
        s.of("Promise 2", DEFINE);
        for (int kind : new int[] {-1, 4, 5, LOWEST, HIGHEST}) {
            refusedDefine(kind, 1, 1);
        }
    }

    private void defineRefusesWhatIsDefined() {
        s.of("Promise 2", DEFINE);
        for (int kind = 0; kind <= 3; kind++) {
            int which = kind;
            for (int[] again : new int[][] {{0, 0}, {2, 1}, {3, 2}}) {
                s.changesNothing("define() again", beans -> {
                    beans.define(which, 2, 1);
                    beans.make(which);
                    beans.setNumber(0, 1, 3);
                    beans.setLink(0, 0, 0);
                }, beans -> due("define() again", beans.define(which, again[0], again[1]), false));
            }
            s.changesNothing("define() again, of a kind without properties",
                beans -> beans.define(which, 0, 0),
                beans -> due("define() again", beans.define(which, 3, 2), false));
        }
        ReplayedBeans cleared = Check.withKinds(1, 1);
        cleared.clear();
        due("define() after clear()", cleared.define(0, 1, 1), false);
    }

    private void defineRefusesNumbers() {
        s.of("Promise 2", DEFINE);
        for (int numbers : new int[] {-1, 4, LOWEST, HIGHEST}) {
            refusedDefine(3, numbers, 2);
        }
    }

    private void defineRefusesLinks() {
        s.of("Promise 2", DEFINE);
        for (int links : new int[] {-1, 3, LOWEST, HIGHEST}) {
            refusedDefine(3, 3, links);
        }
    }

    private void givesValues() {
        s.of("Promise 3", VALUES);
        ReplayedBeans beans = Check.withKinds(3, 0, 3, 0, 3, 0, 3, 0);
        for (int kind = 0; kind <= 3; kind++) {
            for (int k = 0; k <= 2; k++) {
                int v = 100 * kind + 10 * k;
                due("values() of number " + k, beans.values(kind, k, v + 1, v, v + 2), true);
            }
        }
        for (int o = 0; o <= 3; o++) {
            beans.make(o);
            for (int k = 0; k <= 2; k++) {
                int v = 100 * o + 10 * k;
                due("its default", beans.number(o, k), v + 1);
                due("below its least", beans.setNumber(o, k, v - 1), false);
                due("its least", beans.setNumber(o, k, v), true);
                due("its greatest", beans.setNumber(o, k, v + 2), true);
                due("above its greatest", beans.setNumber(o, k, v + 3), false);
            }
        }
    }

    private void objectsKeepTheirNumbers() {
        s.of("Promise 3", VALUES);
        ReplayedBeans beans = Check.withKinds(2, 0);
        beans.make(0);
        beans.make(0);
        beans.setNumber(1, 0, 1000);
        beans.values(0, 0, 5, 5, 5);
        s.dueObject(beans, 0, "0: 0 0 0, -1 -1");
        s.dueObject(beans, 1, "0: 1000 0 0, -1 -1");
        beans.make(0);
        s.dueObject(beans, 2, "0: 5 0 0, -1 -1");
        s.dueWritten(beans, 1, "(ax=1000)");
    }

    private void refusedValues(int kind, int k, int first, int least, int greatest) {
        String call = "values(" + kind + ", " + k + ", " + first + ", " + least + ", " + greatest + ")";
        s.changesNothing(call, PromiseBounds::some,
            beans -> due(call, beans.values(kind, k, first, least, greatest), false));
    }

    private void valuesRefuseKindsAndNumbers() {
        s.of("Promise 3", VALUES_REFUSED);
        for (int kind : new int[] {-1, 3, 4, LOWEST, HIGHEST}) {
            refusedValues(kind, 0, 1, 0, 2);
        }
        for (int k : new int[] {-1, 3, LOWEST, HIGHEST}) {
            refusedValues(0, k, 1, 0, 2);
        }
        refusedValues(1, 0, 1, 0, 2);
        refusedValues(2, 1, 1, 0, 2);
        due("the last number of three", Check.withKinds(3, 0).values(0, 2, 1, 0, 2), true);
        due("the only number", Check.withKinds(1, 0).values(0, 0, 1, 0, 2), true);
        s.changesNothing("values() of a kind before it is defined", beans -> { },
            beans -> due("values(0, 0, 7, 7, 7)", beans.values(0, 0, 7, 7, 7), false));
    }

    private void valuesRefuseLeast() {
        s.of("Promise 3", VALUES_REFUSED);
        refusedValues(0, 0, 3, -100000, 9);
        refusedValues(0, 0, 3, LOWEST, 9);
        refusedValues(0, 0, -100000, -100000, -100000);
        ReplayedBeans beans = Check.withKinds(1, 0);
        due("values(0, 0, -99999, -99999, 9)", beans.values(0, 0, -99999, -99999, 9), true);
        beans.make(0);
        due("its default", beans.number(0, 0), -99999);
        due("setNumber(0, 0, -100000)", beans.setNumber(0, 0, -100000), false);
    }

    private void valuesRefuseGreatest() {
        s.of("Promise 3", VALUES_REFUSED);
        refusedValues(0, 0, 3, 1, 100000);
        refusedValues(0, 0, 3, 1, HIGHEST);
        refusedValues(0, 0, 100000, 100000, 100000);
        ReplayedBeans beans = Check.withKinds(1, 0);
        due("values(0, 0, 99999, 1, 99999)", beans.values(0, 0, 99999, 1, 99999), true);
        beans.make(0);
        due("its default", beans.number(0, 0), 99999);
        due("setNumber(0, 0, 100000)", beans.setNumber(0, 0, 100000), false);
    }

    private void valuesRefuseFirst() {
        s.of("Promise 3", VALUES_REFUSED);
        refusedValues(0, 0, 0, 1, 9);
        refusedValues(0, 0, 10, 1, 9);
        refusedValues(0, 0, LOWEST, 1, 9);
        refusedValues(0, 0, HIGHEST, 1, 9);
        refusedValues(0, 0, 5, 6, 4);
        refusedValues(0, 0, 6, 6, 4);
        refusedValues(0, 0, 4, 6, 4);
        refusedValues(0, 0, 1, 1, 0);
        ReplayedBeans beans = Check.withKinds(3, 0);
        due("first is the least", beans.values(0, 0, 1, 1, 9), true);
        due("first is the greatest", beans.values(0, 1, 9, 1, 9), true);
        due("all three are one", beans.values(0, 2, 4, 4, 4), true);
        beans.make(0);
        s.dueObject(beans, 0, "0: 1 9 4, -1 -1");
    }

    private void makes() {
        s.of("Promise 4", MAKE);
        ReplayedBeans beans = Check.withKinds(0, 0, 1, 0, 0, 1, 3, 2);
        for (int o = 0; o < 24; o++) {
            due("make(" + o % 4 + ")", beans.make(o % 4), o);
            due("kind(" + o + ")", beans.kind(o), o % 4);
        }
    }

    private void makeRefusesKinds() {
        s.of("Promise 4", MAKE);
        for (int kind : new int[] {-1, 3, 4, LOWEST, HIGHEST}) {
            s.changesNothing("make(" + kind + ")", PromiseBounds::some,
                beans -> due("make(" + kind + ")", beans.make(kind), -1));
        }
    }

    private void makeRefusesThe25th() {
        s.of("Promise 4", MAKE);
        for (int kind = 0; kind <= 2; kind++) {
            int which = kind;
            s.changesNothing("make() of a 25th", beans -> {
                some(beans);
                Check.makeMany(beans, 0, 20);
                due("make() of the 24th", beans.make(2), 23);
            }, beans -> due("make() of a 25th", beans.make(which), -1));
        }
    }

    private void clears() {
        s.of("Promise 5", "Takes all objects away; kinds and text stay.");
        ReplayedBeans beans = new ReplayedBeans();
        some(beans);
        Check.makeMany(beans, 0, 21);
        beans.clear();
        due("count()", beans.count(), 0);
        for (int o : new int[] {0, 1, 2, 23}) {
            s.dueObject(beans, o, "-1: 0 0 0, -1 -1");
            due("reachable(" + o + ")", beans.reachable(o), 0);
            due("write(" + o + ")", beans.write(o), -1);
        }
        s.due("the text", Check.textOf(beans), "(ay=6p=(az=1001)q=(b#3))");
        due("define(0, 3, 2)", beans.define(0, 3, 2), false);
        due("make(3)", beans.make(3), -1);
        due("make(0)", beans.make(0), 0);
        s.dueObject(beans, 0, "0: 5 0 0, -1 -1");
        due("its least", beans.setNumber(0, 0, 1), false);
        due("its greatest", beans.setNumber(0, 0, 9), false);
        beans.clear();
        beans.clear();
        due("count() after clear() of nothing", beans.count(), 0);
        Check.makeMany(beans, 0, 23);
        due("the 24th after clear()", beans.make(0), 23);
        due("the 25th after clear()", beans.make(0), -1);
    }

    private void counts() {
        s.of("Promise 6", "How many objects there are.");
        ReplayedBeans beans = Check.withKinds(0, 0);
        for (int many = 0; many < 24; many++) {
            due("count()", beans.count(), many);
            beans.make(1);
            due("count() after make(1)", beans.count(), many);
            beans.make(0);
        }
        due("count() of all", beans.count(), 24);
        beans.make(0);
        due("count() after one too many", beans.count(), 24);
        beans.clear();
        due("count() after clear()", beans.count(), 0);
        Check.readAll(beans, "(ap=(a)p=(b))");
        due("count() after read()", beans.count(), 2);
        onlyAsks("count()", asked -> due("count()", asked.count(), 4));
    }

    private void kindOfObjects() {
        s.of("Promise 7", "The kind of object o; NONE when there is none.");
        ReplayedBeans beans = Check.withKinds(0, 0, 0, 0, 0, 0, 0, 0);
        due("kind(0) of none", beans.kind(0), -1);
        for (int o = 0; o < 24; o++) {
            due("kind(" + o + ") before", beans.kind(o), -1);
            beans.make(3 - o % 4);
            due("kind(" + o + ")", beans.kind(o), 3 - o % 4);
        }
        for (int o : new int[] {-1, -2, 24, LOWEST, HIGHEST}) {
            due("kind(" + o + ")", beans.kind(o), -1);
        }
        onlyAsks("kind()", asked -> {
            due("kind(3)", asked.kind(3), 1);
            due("kind(4)", asked.kind(4), -1);
        });
    }

    private void setsNumbers() {
        s.of("Promise 8", SET_NUMBER);
        ReplayedBeans beans = Check.withKinds(3, 2);
        Check.makeMany(beans, 0, 24);
        for (int o : new int[] {0, 11, 23}) {
            for (int k = 0; k <= 2; k++) {
                due("setNumber(" + o + ", " + k + ")", beans.setNumber(o, k, 10 * o + k), true);
                due("number(" + o + ", " + k + ")", beans.number(o, k), 10 * o + k);
            }
        }
        s.dueObject(beans, 0, "0: 0 1 2, -1 -1");
        s.dueObject(beans, 1, "0: 0 0 0, -1 -1");
        s.dueObject(beans, 11, "0: 110 111 112, -1 -1");
        s.dueObject(beans, 22, "0: 0 0 0, -1 -1");
        s.dueObject(beans, 23, "0: 230 231 232, -1 -1");
    }

    private void refusedNumber(int o, int k, int v) {
        String call = "setNumber(" + o + ", " + k + ", " + v + ")";
        s.changesNothing(call, PromiseBounds::some, beans -> due(call, beans.setNumber(o, k, v), false));
    }

    private void setNumberRefusesObjectsAndNumbers() {
        s.of("Promise 8", SET_NUMBER);
        for (int o : new int[] {-1, 3, 24, LOWEST, HIGHEST}) {
            refusedNumber(o, 0, 7);
        }
        for (int k : new int[] {-1, 3, 4, LOWEST, HIGHEST}) {
            refusedNumber(0, k, 7);
        }
        refusedNumber(2, 0, 7);
        ReplayedBeans beans = Check.withKinds(2, 0);
        Check.makeMany(beans, 0, 24);
        due("number 1 of 2", beans.setNumber(23, 1, 7), true);
        due("number 2 of 2", beans.setNumber(23, 2, 7), false);
        due("object 24 of 24", beans.setNumber(24, 0, 7), false);
        beans.clear();
        due("after clear()", beans.setNumber(0, 0, 7), false);
    }

    private void setNumberRefusesValues() {
        s.of("Promise 8", SET_NUMBER);
        for (int v : new int[] {1, 9, -1000, 1000, LOWEST, HIGHEST}) {
            refusedNumber(1, 0, v);
        }
        for (int v : new int[] {-1001, 1001}) {
            refusedNumber(1, 1, v);
        }
        ReplayedBeans beans = new ReplayedBeans();
        some(beans);
        for (int v : new int[] {2, 3, 7, 8}) {
            due("setNumber(1, 0, " + v + ")", beans.setNumber(1, 0, v), true);
            due("number(1, 0)", beans.number(1, 0), v);
        }
    }

    private void setNumberGoesByBoundsOfNow() {
        s.of("Promise 8", SET_NUMBER);
        ReplayedBeans beans = Check.withKinds(1, 0);
        beans.make(0);
        beans.setNumber(0, 0, 500);
        beans.values(0, 0, 2000, 1500, 2500);
        due("what it is, which is too small now", beans.setNumber(0, 0, 500), false);
        due("number(0, 0)", beans.number(0, 0), 500);
        due("1499", beans.setNumber(0, 0, 1499), false);
        due("2501", beans.setNumber(0, 0, 2501), false);
        due("number(0, 0) still", beans.number(0, 0), 500);
        due("1500", beans.setNumber(0, 0, 1500), true);
        due("2500", beans.setNumber(0, 0, 2500), true);
        due("number(0, 0) at last", beans.number(0, 0), 2500);
    }

    private void setsLinks() {
        s.of("Promise 9", SET_LINK);
        ReplayedBeans beans = Check.withKinds(3, 2);
        Check.makeMany(beans, 0, 24);
        for (int o : new int[] {0, 23}) {
            for (int k = 0; k <= 1; k++) {
                for (int to : new int[] {0, 23, -1, 12 + k}) {
                    due("setLink(" + o + ", " + k + ", " + to + ")", beans.setLink(o, k, to), true);
                    due("link(" + o + ", " + k + ")", beans.link(o, k), to);
                }
            }
        }
        s.dueObject(beans, 0, "0: 0 0 0, 12 13");
        s.dueObject(beans, 1, "0: 0 0 0, -1 -1");
        s.dueObject(beans, 22, "0: 0 0 0, -1 -1");
        s.dueObject(beans, 23, "0: 0 0 0, 12 13");
    }

    private void refusedLink(int o, int k, int to) {
        String call = "setLink(" + o + ", " + k + ", " + to + ")";
        s.changesNothing(call, PromiseBounds::some, beans -> due(call, beans.setLink(o, k, to), false));
    }

    private void setLinkRefusesObjectsAndLinks() {
        s.of("Promise 9", SET_LINK);
        for (int o : new int[] {-1, 3, 24, LOWEST, HIGHEST}) {
            refusedLink(o, 0, 2);
            refusedLink(o, 0, -1);
        }
        for (int k : new int[] {-1, 2, 3, LOWEST, HIGHEST}) {
            refusedLink(0, k, 2);
            refusedLink(0, k, -1);
        }
        refusedLink(2, 0, 0);
        refusedLink(2, 0, -1);
        ReplayedBeans beans = Check.withKinds(0, 1);
        Check.makeMany(beans, 0, 24);
        due("link 0 of 1", beans.setLink(23, 0, 23), true);
        due("link 1 of 1", beans.setLink(23, 1, 23), false);
        due("object 24 of 24", beans.setLink(24, 0, 23), false);
    }

    private void setLinkRefusesWhereTo() {
        s.of("Promise 9", SET_LINK);
        for (int to : new int[] {-2, -3, 3, 24, LOWEST, HIGHEST}) {
            refusedLink(0, 0, to);
            refusedLink(1, 1, to);
        }
        ReplayedBeans beans = Check.withKinds(0, 1);
        beans.make(0);
        due("to one that is not there yet", beans.setLink(0, 0, 1), false);
        beans.make(0);
        due("to one that is there now", beans.setLink(0, 0, 1), true);
    }

    private void numberOfObjects() {
        s.of("Promise 10", "Number k of object o; 0 when there is no such object or number.");
        ReplayedBeans beans = Check.withKinds(3, 0, 1, 0);
        for (int k = 0; k <= 2; k++) {
            beans.values(0, k, 9, 9, 9);
        }
        beans.values(1, 0, 9, 9, 9);
        Check.makeMany(beans, 0, 23);
        beans.make(1);
        for (int k = 0; k <= 2; k++) {
            due("number(0, " + k + ")", beans.number(0, k), 9);
            due("number(22, " + k + ")", beans.number(22, k), 9);
            due("number(23, " + k + ")", beans.number(23, k), k == 0 ? 9 : 0);
        }
        for (int far : new int[] {-1, -2, LOWEST, HIGHEST, 24}) {
            due("number(" + far + ", 0)", beans.number(far, 0), 0);
            due("number(1, " + far + ")", beans.number(1, far), 0);
        }
        due("number(1, 3)", beans.number(1, 3), 0);
        due("number(-1, 3)", beans.number(-1, 3), 0);
        beans.clear();
        due("number(0, 0) after clear()", beans.number(0, 0), 0);
        onlyAsks("number()", asked -> {
            due("number(0, 1)", asked.number(0, 1), 6);
            due("number(3, 0)", asked.number(3, 0), 0);
        });
    }

    private void linkOfObjects() {
        s.of("Promise 11", "The object to which link k of object o leads; NONE when it is NONE, or there is no"
            + " such object or link.");
        ReplayedBeans beans = Check.withKinds(0, 2, 0, 1);
        Check.makeMany(beans, 0, 23);
        beans.make(1);
        due("link(0, 0) that is NONE", beans.link(0, 0), -1);
        for (int o = 0; o < 24; o++) {
            beans.setLink(o, 0, 23 - o);
            beans.setLink(o, 1, o);
        }
        for (int o : new int[] {0, 1, 22, 23}) {
            due("link(" + o + ", 0)", beans.link(o, 0), 23 - o);
            due("link(" + o + ", 1)", beans.link(o, 1), o == 23 ? -1 : o);
        }
        for (int far : new int[] {-1, -2, LOWEST, HIGHEST, 24}) {
            due("link(" + far + ", 0)", beans.link(far, 0), -1);
            due("link(1, " + far + ")", beans.link(1, far), -1);
        }
        due("link(1, 2)", beans.link(1, 2), -1);
        beans.clear();
        due("link(0, 0) after clear()", beans.link(0, 0), -1);
        onlyAsks("link()", asked -> {
            due("link(0, 1)", asked.link(0, 1), 2);
            due("link(3, 0)", asked.link(3, 0), -1);
        });
    }

    private void howManyAreReachable() {
        s.of("Promise 12", "How many objects are reachable from object o; 0 when there is none.");
        ReplayedBeans beans = Check.withKinds(0, 2);
        due("reachable(0) of none", beans.reachable(0), 0);
        Check.makeMany(beans, 0, 24);
        due("reachable(23) alone", beans.reachable(23), 1);
        for (int o = 0; o <= 10; o++) {
            beans.setLink(o, 0, 2 * o + 1);
            beans.setLink(o, 1, 2 * o + 2);
        }
        beans.setLink(22, 1, 23);
        due("reachable(0)", beans.reachable(0), 24);
        due("reachable(1)", beans.reachable(1), 16);
        due("reachable(2)", beans.reachable(2), 7);
        for (int o : new int[] {-1, -2, 24, LOWEST, HIGHEST}) {
            due("reachable(" + o + ")", beans.reachable(o), 0);
        }
        due("reachable(0) again", beans.reachable(0), 24);
        onlyAsks("reachable()", asked -> {
            due("reachable(0)", asked.reachable(0), 3);
            due("reachable(4)", asked.reachable(4), 0);
        });
    }

    private void alikeOrNotThere() {
        s.of("Promise 13", "Whether objects a and b are ALIKE; false when one of them is not there.");
        ReplayedBeans beans = Check.withKinds(1, 1);
        due("alike(0, 0) of none", beans.alike(0, 0), false);
        Check.makeMany(beans, 0, 24);
        due("alike(0, 23)", beans.alike(0, 23), true);
        due("alike(23, 0)", beans.alike(23, 0), true);
        due("alike(23, 23)", beans.alike(23, 23), true);
        for (int o : new int[] {-1, -2, 24, LOWEST, HIGHEST}) {
            due("alike(" + o + ", 0)", beans.alike(o, 0), false);
            due("alike(0, " + o + ")", beans.alike(0, o), false);
            due("alike(" + o + ", " + o + ")", beans.alike(o, o), false);
        }
        beans.setNumber(23, 0, 1);
        due("alike(0, 23) no more", beans.alike(0, 23), false);
        onlyAsks("alike()", asked -> {
            due("alike(2, 3)", asked.alike(2, 3), true);
            due("alike(0, 1)", asked.alike(0, 1), false);
            due("alike(0, 4)", asked.alike(0, 4), false);
        });
    }

    private void writes() {
        s.of("Promise 14", "Writes object r: how many characters the text has.");
        ReplayedBeans beans = Check.withKinds(1, 1);
        Check.makeMany(beans, 0, 24);
        s.dueWritten(beans, 0, "(a)");
        s.dueWritten(beans, 23, "(a)");
        beans.setNumber(23, 0, -1000);
        s.dueWritten(beans, 23, "(ax=-1000)");
        ReplayedBeans longest = TermsBounds.longest();
        due("write(0)", longest.write(0), 300);
        due("length()", longest.length(), 300);
        due("at(1)", longest.at(1), '(');
        due("at(299)", longest.at(299), ')');
        due("at(300)", longest.at(300), ')');
        due("at(298)", longest.at(298), '5');
    }

    private void writeRefusesObjects() {
        s.of("Promise 14", WRITE_REFUSED);
        for (int r : new int[] {-1, -2, 3, 24, LOWEST, HIGHEST}) {
            s.changesNothing("write(" + r + ")", PromiseBounds::some,
                beans -> due("write(" + r + ")", beans.write(r), -1));
        }
        s.changesNothing("write(0) of none", beans -> Check.typeAll(beans, "(a"),
            beans -> due("write(0) of none", beans.write(0), -1));
    }

    private void writeRefusesDepth() {
        s.of("Promise 14", WRITE_REFUSED);
        s.changesNothing("write(0) inside of ten", beans -> {
            beans.define(0, 1, 2);
            Check.makeMany(beans, 0, 13);
            Check.chain(beans, 0, 0, 10);
            Check.readAll(beans, "(az=1)");
        }, beans -> due("write(0) inside of ten", beans.write(0), -2));
        ReplayedBeans beans = Check.withKinds(0, 2);
        Check.makeMany(beans, 0, 13);
        Check.chain(beans, 0, 0, 9);
        s.dueWritten(beans, 0, "(ap=".repeat(9) + "(a" + ")".repeat(10));
        beans.setLink(9, 1, 0);
        s.dueWritten(beans, 0, "(a#0p=" + "(ap=".repeat(8) + "(aq=@0" + ")".repeat(10));
        beans.setLink(9, 1, 10);
        due("an eleventh", beans.write(0), -2);
        due("length() after it", beans.length(), "(a#0p=".length() + 8 * 4 + "(aq=@0".length() + 10);
        beans.setLink(0, 1, 10);
        due("the short way comes after the long one", beans.write(0), -2);
        beans.setLink(0, 1, 1);
        beans.setLink(0, 0, 10);
        s.dueWritten(beans, 0, "(ap=(a#0)q=" + "(ap=".repeat(8) + "(aq=@0" + ")".repeat(10));
    }

    private void writeRefusesLength() {
        s.of("Promise 14", WRITE_REFUSED);
        ReplayedBeans beans = TermsBounds.longest();
        due("write(0) of 300", beans.write(0), 300);
        beans.setNumber(10, 0, -12345);
        due("write(0) of 301", beans.write(0), -3);
        due("length()", beans.length(), 300);
        StringBuilder end = new StringBuilder();
        for (int place = 290; place <= 301; place++) {
            end.append(beans.at(place) == -1 ? "" : Character.toString(beans.at(place)));
        }
        s.due("the end of the text", end.toString(), "(ax=12345))");
        beans.setNumber(10, 1, -12345);
        due("write(0) of 309", beans.write(0), -3);
        due("write(10)", beans.write(10), 19);
        due("write(0) of 309 again", beans.write(0), -3);
        s.due("the text", Check.textOf(beans), "(ax=-12345y=-12345)");
    }

    /** Object 0 is too long for the text before the second chain, which begins at object 10, is reached. */
    private static ReplayedBeans twoLongChains() {
        ReplayedBeans beans = TermsBounds.longest();
        Check.makeMany(beans, 0, 13);
        Check.chain(beans, 1, 10, 18);
        for (int o = 10; o <= 19; o++) {
            beans.setNumber(o, 0, -99999);
        }
        return beans;
    }

    private void writeIsTooDeepBeforeTooLong() {
        s.of("Promise 14", WRITE_REFUSED);
        ReplayedBeans beans = twoLongChains();
        Check.typeAll(beans, "kept");
        due("too long, and ten levels", beans.write(0), -3);
        beans.setLink(18, 0, 19);
        due("too long, and eleven levels behind the 300th character", beans.write(0), -2);
        s.due("the text", Check.textOf(beans), "kept");
        beans.setLink(18, 0, -1);
        due("too long, and ten levels again", beans.write(0), -3);
        beans.setLink(9, 0, 20);
        due("eleven levels before the 300th character", beans.write(0), -2);
        s.due("the text still", Check.textOf(beans), "kept");
    }

    private void types() {
        s.of("Promise 15", TYPE);
        ReplayedBeans beans = new ReplayedBeans();
        for (int c = 32; c <= 126; c++) {
            due("type() of " + c, beans.type((char) c), true);
            due("length()", beans.length(), c - 31);
            due("at() of the last", beans.at(c - 31), c);
        }
        due("at(1)", beans.at(1), 32);
    }

    private void typeRefusesCharacters() {
        s.of("Promise 15", TYPE);
        for (int c : new int[] {0, 31, 127, 128, 255, 256, 256 + 40, 32768 + 40, 65535}) {
            s.changesNothing("type() of " + c, PromiseBounds::some,
                beans -> due("type() of " + c, beans.type((char) c), false));
        }
        s.changesNothing("type() of 31 to an empty text", beans -> { },
            beans -> due("type() of 31 to an empty text", beans.type((char) 31), false));
    }

    private void typeRefusesThe301st() {
        s.of("Promise 15", TYPE);
        s.changesNothing("type() of a 301st", beans -> {
            beans.define(0, 1, 1);
            Check.typeAll(beans, "(a" + "x=1".repeat(98) + "x=2");
            due("type() of the 300th", beans.type(')'), true);
        }, beans -> {
            due("type() of a 301st", beans.type('('), false);
            due("type() of a 301st again", beans.type(')'), false);
        });
    }

    private void wipes() {
        s.of("Promise 16", "Makes the text empty.");
        ReplayedBeans beans = new ReplayedBeans();
        beans.wipe();
        due("length() after wipe() of nothing", beans.length(), 0);
        Check.typeAll(beans, "u".repeat(300));
        beans.wipe();
        due("length() after wipe() of 300", beans.length(), 0);
        due("at(1)", beans.at(1), -1);
        due("at(300)", beans.at(300), -1);
        due("read()", beans.read(), -1001);
        due("type()", beans.type('v'), true);
        s.due("the text", Check.textOf(beans), "v");
        ReplayedBeans kept = new ReplayedBeans();
        some(kept);
        kept.wipe();
        due("count()", kept.count(), 3);
        s.dueObject(kept, 0, "0: 5 6 0, 1 2");
        due("define(0, 3, 2)", kept.define(0, 3, 2), false);
    }

    private void lengths() {
        s.of("Promise 17", "How many characters the text has.");
        ReplayedBeans beans = new ReplayedBeans();
        for (int many = 0; many < 200; many++) {
            due("length()", beans.length(), many);
            beans.type('u');
        }
        Check.typeAll(beans, "u".repeat(100));
        due("length() of 300", beans.length(), 300);
        beans.type('u');
        due("length() after one too many", beans.length(), 300);
        beans.wipe();
        due("length() after wipe()", beans.length(), 0);
        beans.type('\n');
        due("length() after what is refused", beans.length(), 0);
        onlyAsks("length()", asked -> due("length()", asked.length(), 24));
    }

    private void characterAtPlaces() {
        s.of("Promise 18", "The code of the character at a place (from 1); NONE when there is none.");
        ReplayedBeans beans = new ReplayedBeans();
        due("at(1) of none", beans.at(1), -1);
        for (int place = 1; place <= 300; place++) {
            beans.type((char) (32 + place % 95));
        }
        for (int place : new int[] {1, 2, 94, 95, 149, 150, 298, 299, 300}) {
            due("at(" + place + ")", beans.at(place), 32 + place % 95);
        }
        for (int place : new int[] {0, -1, -2, 301, 302, LOWEST, HIGHEST}) {
            due("at(" + place + ")", beans.at(place), -1);
        }
        beans.wipe();
        beans.type('~');
        due("at(1) after wipe()", beans.at(1), '~');
        due("at(2) after wipe()", beans.at(2), -1);
        onlyAsks("at()", asked -> {
            due("at(24)", asked.at(24), ')');
            due("at(25)", asked.at(25), -1);
        });
    }

    private void readsObjects() {
        s.of("Promise 19", READ);
        ReplayedBeans beans = Check.withKinds(1, 2);
        s.dueRead(beans, "(ap=(a)q=(a))", 0, "");
        s.dueRead(beans, "(ap=(a)q=(a))", 3, "");
        due("reading the same text again", beans.read(), 6);
        s.due("the text stays", Check.textOf(beans), "(ap=(a)q=(a))");
        Check.makeMany(beans, 0, 14);
        s.dueRead(beans, "(ax=1001)", 23, "3");
        ReplayedBeans written = TermsBounds.longest();
        written.write(0);
        due("reading 300 that were written", written.read(), 11);
        due("failures()", written.failures(), 0);
        due("alike(0, 11)", written.alike(0, 11), true);
        due("count()", written.count(), 22);
    }

    private void readsFailed() {
        s.of("Promise 19", READ);
        ReplayedBeans beans = Check.withKinds(1, 1);
        s.dueRead(beans, "(b)", -1, "1");
        s.dueRead(beans, "(bp=(a))", -1, "1 3");
        due("count()", beans.count(), 1);
        s.dueRead(beans, "(ap=(b))", 1, "5 3");
        Check.makeMany(beans, 0, 22);
        s.dueRead(beans, "(a)", -1, "1");
    }

    private void readsNoObject() {
        s.of("Promise 19", READ);
        ReplayedBeans beans = Check.withKinds(1, 1);
        due("read() of nothing", beans.read(), -1001);
        due("read() of )", Check.readAll(beans, ")"), -1001);
        due("read() of (", Check.readAll(beans, "("), -1002);
        due("read() of (a))", Check.readAll(beans, "(a))"), -1004);
        due("read() of 300 that can begin one",
            Check.readAll(Check.withKinds(1, 1), "(a" + "x=1".repeat(99) + "x"), -1301);
        due("read() of 300, the last one wrong",
            Check.readAll(Check.withKinds(1, 1), "(a" + "x=1".repeat(99) + "("), -1300);
    }

    private void failuresOfTheLatestReading() {
        s.of("Promise 20", FAILURES);
        ReplayedBeans beans = Check.withKinds(0, 1);
        Check.readAll(beans, "(bx=1y=1)");
        due("failures()", beans.failures(), 3);
        due("a text that is no object", Check.readAll(beans, "(bx=1"), -1006);
        due("failures() after it", beans.failures(), 3);
        due("an empty text", Check.readAll(beans, ""), -1001);
        due("failures() after that", beans.failures(), 3);
        beans.make(0);
        beans.write(0);
        due("failures() after write()", beans.failures(), 3);
        Check.readAll(beans, "(ax=1)");
        due("failures() of a later one", beans.failures(), 1);
        Check.readAll(beans, "(a)");
        due("failures() of one without any", beans.failures(), 0);
        ReplayedBeans many = new ReplayedBeans();
        Check.readAll(many, "(b#00" + "p=(b#0)".repeat(42) + ")");
        due("failures() of 300 characters", many.failures(), 128);
        onlyAsks("failures()", asked -> due("failures()", asked.failures(), 1));
    }

    /** No call but read() is a reading, so none of the others touches the failures of the latest one. */
    private void failuresUntilTheNextReading() {
        s.of("Promise 20", FAILURES);
        s.of("Promise 21", FAILURE);
        ReplayedBeans beans = Check.withKinds(1, 1);
        Check.readAll(beans, "(ay=1p=(b#1))");
        String places = "3 8 10 6";
        s.due("after read()", Check.failuresOf(beans), places);
        beans.wipe();
        s.due("after wipe()", Check.failuresOf(beans), places);
        beans.clear();
        s.due("after clear()", Check.failuresOf(beans), places);
        beans.define(1, 1, 1);
        s.due("after define()", Check.failuresOf(beans), places);
        beans.values(0, 0, 1, 1, 1);
        s.due("after values()", Check.failuresOf(beans), places);
        beans.make(0);
        beans.setNumber(0, 0, 1);
        beans.setNumber(0, 0, 2);
        beans.setLink(0, 0, 0);
        beans.setLink(0, 0, 1);
        s.due("after make(), setNumber() and setLink()", Check.failuresOf(beans), places);
        beans.write(0);
        s.due("after write()", Check.failuresOf(beans), places);
        beans.type('(');
        s.due("after type()", Check.failuresOf(beans), places);
        due("read() of no object", beans.read(), -1010);
        s.due("after it", Check.failuresOf(beans), places);
        beans.clear();
        beans.wipe();
        due("failures() after clear() and wipe()", beans.failures(), 4);
        s.dueRead(beans, "(b)", 0, "");
        beans.wipe();
        beans.clear();
        due("failures() of the next one", beans.failures(), 0);
        due("failure(0) of the next one", beans.failure(0), 0);
    }

    private void failuresOfNoReading() {
        s.of("Promise 20", FAILURES);
        ReplayedBeans beans = new ReplayedBeans();
        due("failures() of a new one", beans.failures(), 0);
        beans.define(0, 0, 0);
        beans.make(4);
        beans.setNumber(0, 0, 0);
        due("failures() after what was refused", beans.failures(), 0);
        due("read() of no object", Check.readAll(beans, "(bx=1p=(c)"), -1011);
        due("failures() after it", beans.failures(), 0);
    }

    private void placesOfFailures() {
        s.of("Promise 21", FAILURE);
        ReplayedBeans beans = Check.withKinds(0, 1);
        due("failure(0) of no reading", beans.failure(0), 0);
        Check.readAll(beans, "(ax=1p=(b#7)p=@1)");
        int[] places = {3, 8, 10, 6, 13};
        for (int k = 0; k < places.length; k++) {
            due("failure(" + k + ") of " + Arrays.toString(places), beans.failure(k), places[k]);
        }
        for (int k : new int[] {-1, 5, 6, LOWEST, HIGHEST}) {
            due("failure(" + k + ")", beans.failure(k), 0);
        }
        Check.readAll(beans, "(ap=(c");
        due("failure(4) after no object", beans.failure(4), 13);
        due("failure(5) after no object", beans.failure(5), 0);
        Check.readAll(beans, "(ay=1)");
        due("failure(0) of the next", beans.failure(0), 3);
        due("failure(1) of the next", beans.failure(1), 0);
        Check.readAll(beans, "(a)");
        due("failure(0) of none", beans.failure(0), 0);
        onlyAsks("failure()", asked -> {
            due("failure(0)", asked.failure(0), 10);
            due("failure(1)", asked.failure(1), 0);
        });
    }
}
