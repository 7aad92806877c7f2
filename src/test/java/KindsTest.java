/** Promises 1 to 3: a new object, define, values. */
final class KindsTest {
    private static final Check CHECK = new Check();

    public static void main(String[] args) {
        aNewObject();
        defineEdges();
        defineOnlyOnce();
        refusedDefineChangesNothing();
        valuesAtFirst();
        valuesEdges();
        refusedValuesChangeNothing();
        valuesLeaveObjects();
        valuesAreOfOneNumber();
        CHECK.finish();
    }

    private static void aNewObject() {
        ReplayedBeans beans = new ReplayedBeans();
        CHECK.due("new count", beans.count(), 0);
        CHECK.due("new length", beans.length(), 0);
        CHECK.due("new at(1)", beans.at(1), -1);
        CHECK.due("new failures", beans.failures(), 0);
        CHECK.due("new failure(0)", beans.failure(0), 0);
        for (int kind = -1; kind <= 4; kind++) {
            CHECK.due("new make " + kind, beans.make(kind), -1);
            CHECK.due("new values " + kind, beans.values(kind, 0, 0, 0, 0), false);
        }
        CHECK.due("new read", beans.read(), -1001);
        ReplayedBeans other = Check.withKinds(1, 1);
        other.make(0);
        CHECK.due("count beside another", beans.count(), 0);
    }

    private static void defineEdges() {
        int[][] wrong = {{-1, 0, 0}, {4, 0, 0}, {0, -1, 0}, {0, 4, 0}, {0, 0, -1}, {0, 0, 3},
            {Integer.MIN_VALUE, 1, 1}, {Integer.MAX_VALUE, 1, 1}, {0, Integer.MAX_VALUE, 1},
            {0, Integer.MIN_VALUE, 1}, {0, 1, Integer.MAX_VALUE}, {0, 1, Integer.MIN_VALUE}};
        for (int[] w : wrong) {
            ReplayedBeans beans = new ReplayedBeans();
            CHECK.due("define " + w[0] + " " + w[1] + " " + w[2], beans.define(w[0], w[1], w[2]), false);
        }
        for (int kind = 0; kind <= 3; kind++) {
            for (int numbers = 0; numbers <= 3; numbers++) {
                for (int links = 0; links <= 2; links++) {
                    defineOne(kind, numbers, links);
                }
            }
        }
    }

    private static void defineOne(int kind, int numbers, int links) {
        ReplayedBeans beans = new ReplayedBeans();
        String which = kind + " " + numbers + " " + links + ": ";
        CHECK.due(which + "define", beans.define(kind, numbers, links), true);
        CHECK.due(which + "make", beans.make(kind), 0);
        for (int k = -1; k <= 4; k++) {
            CHECK.due(which + "setNumber " + k, beans.setNumber(0, k, 1), k >= 0 && k < numbers);
            CHECK.due(which + "setLink " + k, beans.setLink(0, k, 0), k >= 0 && k < links);
        }
        for (int other = 0; other <= 3; other++) {
            CHECK.due(which + "make " + other, beans.make(other), other == kind ? 1 : -1);
        }
    }

    private static void defineOnlyOnce() {
        ReplayedBeans beans = Check.withKinds(2, 1);
        CHECK.due("define again", beans.define(0, 3, 2), false);
        CHECK.due("define again the same", beans.define(0, 2, 1), false);
        beans.make(0);
        CHECK.due("third number", beans.setNumber(0, 2, 1), false);
        CHECK.due("second number", beans.setNumber(0, 1, 1), true);
        CHECK.due("second link", beans.setLink(0, 1, 0), false);
        beans.clear();
        CHECK.due("define after clear", beans.define(0, 3, 2), false);
        ReplayedBeans empty = Check.withKinds(0, 0);
        CHECK.due("define a kind without properties again", empty.define(0, 1, 1), false);
    }

    private static void refusedDefineChangesNothing() {
        ReplayedBeans beans = new ReplayedBeans();
        beans.define(1, 4, 1);
        beans.define(1, 1, 3);
        CHECK.due("make of a refused kind", beans.make(1), -1);
        CHECK.due("values of a refused kind", beans.values(1, 0, 0, 0, 0), false);
        CHECK.due("define after a refusal", beans.define(1, 1, 1), true);
    }

    private static void valuesAtFirst() {
        ReplayedBeans beans = Check.withKinds(3, 0);
        beans.make(0);
        for (int k = 0; k < 3; k++) {
            CHECK.due("default at first", beans.number(0, k), 0);
            CHECK.due("least at first", beans.setNumber(0, k, -1000), true);
            CHECK.due("below the least at first", beans.setNumber(0, k, -1001), false);
            CHECK.due("greatest at first", beans.setNumber(0, k, 1000), true);
            CHECK.due("above the greatest at first", beans.setNumber(0, k, 1001), false);
        }
    }

    private static void valuesEdges() {
        ReplayedBeans beans = Check.withKinds(2, 0);
        CHECK.due("kind -1", beans.values(-1, 0, 0, 0, 0), false);
        CHECK.due("kind 4", beans.values(4, 0, 0, 0, 0), false);
        CHECK.due("kind not defined", beans.values(1, 0, 0, 0, 0), false);
        CHECK.due("number -1", beans.values(0, -1, 0, 0, 0), false);
        CHECK.due("number 2 of 2", beans.values(0, 2, 0, 0, 0), false);
        CHECK.due("widest", beans.values(0, 0, 0, -99999, 99999), true);
        CHECK.due("least -100000", beans.values(0, 0, 0, -100000, 99999), false);
        CHECK.due("greatest 100000", beans.values(0, 0, 0, -99999, 100000), false);
        CHECK.due("first below least", beans.values(0, 0, 4, 5, 9), false);
        CHECK.due("first at least", beans.values(0, 0, 5, 5, 9), true);
        CHECK.due("first at greatest", beans.values(0, 0, 9, 5, 9), true);
        CHECK.due("first above greatest", beans.values(0, 0, 10, 5, 9), false);
        CHECK.due("least above greatest", beans.values(0, 0, 7, 9, 5), false);
        CHECK.due("all one", beans.values(0, 0, -99999, -99999, -99999), true);
        CHECK.due("extremes", beans.values(0, 0, 0, Integer.MIN_VALUE, Integer.MAX_VALUE), false);
        CHECK.due("least extreme", beans.values(0, 0, 0, Integer.MIN_VALUE, 5), false);
        CHECK.due("greatest extreme", beans.values(0, 0, 0, -5, Integer.MAX_VALUE), false);
    }

    private static void refusedValuesChangeNothing() {
        ReplayedBeans beans = Check.withKinds(1, 0);
        beans.values(0, 0, 5, 2, 8);
        beans.values(0, 0, 50, 20, 40);
        beans.values(0, 0, 10, 20, 40);
        beans.values(0, 0, 6, -100000, 9);
        beans.values(0, 0, 6, 1, 100000);
        beans.make(0);
        CHECK.due("default that stayed", beans.number(0, 0), 5);
        CHECK.due("least that stayed", beans.setNumber(0, 0, 1), false);
        CHECK.due("least that stayed, at it", beans.setNumber(0, 0, 2), true);
        CHECK.due("greatest that stayed", beans.setNumber(0, 0, 9), false);
        CHECK.due("greatest that stayed, at it", beans.setNumber(0, 0, 8), true);
    }

    private static void valuesLeaveObjects() {
        ReplayedBeans beans = Check.withKinds(1, 0);
        beans.make(0);
        beans.make(0);
        beans.setNumber(1, 0, 77);
        beans.values(0, 0, 5, 2, 8);
        CHECK.due("number of an older object", beans.number(0, 0), 0);
        CHECK.due("set number of an older object", beans.number(1, 0), 77);
        beans.make(0);
        CHECK.due("number of a newer object", beans.number(2, 0), 5);
    }

    private static void valuesAreOfOneNumber() {
        ReplayedBeans beans = Check.withKinds(3, 0, 3, 0, 3, 0, 3, 0);
        for (int kind = 0; kind < 4; kind++) {
            for (int k = 0; k < 3; k++) {
                int v = 10 * kind + k;
                beans.values(kind, k, v, v, v + 1);
            }
        }
        for (int kind = 0; kind < 4; kind++) {
            beans.make(kind);
            for (int k = 0; k < 3; k++) {
                int v = 10 * kind + k;
                CHECK.due("own default", beans.number(kind, k), v);
                CHECK.due("own least", beans.setNumber(kind, k, v - 1), false);
                CHECK.due("own greatest", beans.setNumber(kind, k, v + 2), false);
                CHECK.due("own greatest, at it", beans.setNumber(kind, k, v + 1), true);
            }
        }
    }
}
