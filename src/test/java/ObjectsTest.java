/** Promises 4 to 11: make, clear, count, kind, setNumber, setLink, number, link. */
final class ObjectsTest {
    private static final Check CHECK = new Check();
    private static final int[] FAR = {Integer.MIN_VALUE, -25, -2, -1, 24, 25, Integer.MAX_VALUE};

    public static void main(String[] args) {
        makeUpTo24();
        madeAnew();
        clearTakesObjectsOnly();
        kinds();
        numbers();
        numbersOfNow();
        links();
        noSuchObject();
        CHECK.finish();
    }

    private static void makeUpTo24() {
        ReplayedBeans beans = Check.withKinds(1, 1, 0, 0);
        for (int o = 0; o < 24; o++) {
            CHECK.due("count before " + o, beans.count(), o);
            CHECK.due("make " + o, beans.make(o % 2), o);
        }
        CHECK.due("make the 25th", beans.make(0), -1);
        CHECK.due("make the 25th of another kind", beans.make(1), -1);
        CHECK.due("count when full", beans.count(), 24);
        CHECK.due("last one", beans.kind(23), 1);
        for (int kind : new int[] {-1, 2, 3, 4, Integer.MIN_VALUE, Integer.MAX_VALUE}) {
            ReplayedBeans few = Check.withKinds(1, 1, 0, 0);
            CHECK.due("make kind " + kind, few.make(kind), -1);
            CHECK.due("count after make kind " + kind, few.count(), 0);
        }
    }

    private static void madeAnew() {
        ReplayedBeans beans = Check.withKinds(3, 2);
        beans.values(0, 1, 7, 0, 9);
        beans.make(0);
        CHECK.due("made", Check.show(beans, 0), "0: 0 7 0, -1 -1");
        beans.setNumber(0, 0, 3);
        beans.setNumber(0, 1, 4);
        beans.setLink(0, 0, 0);
        beans.setLink(0, 1, 0);
        beans.clear();
        beans.make(0);
        CHECK.due("made after clear", Check.show(beans, 0), "0: 0 7 0, -1 -1");
    }

    private static void clearTakesObjectsOnly() {
        ReplayedBeans beans = Check.withKinds(2, 1);
        beans.values(0, 0, 3, 1, 5);
        Check.makeMany(beans, 0, 24);
        Check.readAll(beans, "(ax=4)");
        CHECK.due("failures before clear", Check.failuresOf(beans), "1 3");
        beans.clear();
        CHECK.due("count after clear", beans.count(), 0);
        CHECK.due("kind after clear", beans.kind(0), -1);
        CHECK.due("number after clear", beans.number(0, 0), 0);
        CHECK.due("text after clear", Check.textOf(beans), "(ax=4)");
        CHECK.due("failures after clear", Check.failuresOf(beans), "1 3");
        CHECK.due("make after clear", beans.make(0), 0);
        CHECK.due("default after clear", beans.number(0, 0), 3);
        CHECK.due("bounds after clear", beans.setNumber(0, 0, 6), false);
        beans.clear();
        beans.clear();
        CHECK.due("count after clear twice", beans.count(), 0);
    }

    private static void kinds() {
        ReplayedBeans beans = Check.withKinds(0, 0, 1, 0, 2, 0, 3, 0);
        for (int i = 0; i < 8; i++) {
            beans.make(3 - i % 4);
        }
        for (int i = 0; i < 8; i++) {
            CHECK.due("kind of " + i, beans.kind(i), 3 - i % 4);
        }
        CHECK.due("kind of the next", beans.kind(8), -1);
    }

    private static void numbers() {
        ReplayedBeans beans = Check.withKinds(2, 2);
        beans.values(0, 0, 0, -3, 3);
        beans.make(0);
        beans.make(0);
        CHECK.due("at the least", beans.setNumber(0, 0, -3), true);
        CHECK.due("below the least", beans.setNumber(0, 0, -4), false);
        CHECK.due("it stayed", beans.number(0, 0), -3);
        CHECK.due("at the greatest", beans.setNumber(0, 0, 3), true);
        CHECK.due("above the greatest", beans.setNumber(0, 0, 4), false);
        CHECK.due("it stayed again", beans.number(0, 0), 3);
        CHECK.due("lowest", beans.setNumber(0, 0, Integer.MIN_VALUE), false);
        CHECK.due("highest", beans.setNumber(0, 0, Integer.MAX_VALUE), false);
        CHECK.due("second number", beans.setNumber(0, 1, 900), true);
        CHECK.due("number 2 of 2", beans.setNumber(0, 2, 0), false);
        CHECK.due("number -1", beans.setNumber(0, -1, 0), false);
        CHECK.due("number far", beans.setNumber(0, Integer.MAX_VALUE, 0), false);
        CHECK.due("the whole", Check.show(beans, 0), "0: 3 900 0, -1 -1");
        CHECK.due("the other", Check.show(beans, 1), "0: 0 0 0, -1 -1");
        CHECK.due("read number -1", beans.number(0, -1), 0);
        CHECK.due("read number 2 of 2", beans.number(0, 2), 0);
        CHECK.due("read number far", beans.number(0, Integer.MIN_VALUE), 0);
    }

    private static void numbersOfNow() {
        ReplayedBeans beans = Check.withKinds(1, 0);
        beans.make(0);
        beans.setNumber(0, 0, 500);
        beans.values(0, 0, 7, 5, 9);
        CHECK.due("kept", beans.number(0, 0), 500);
        CHECK.due("set to what it is, out of bounds now", beans.setNumber(0, 0, 500), false);
        CHECK.due("set within bounds of now", beans.setNumber(0, 0, 9), true);
        CHECK.due("changed", beans.number(0, 0), 9);
    }

    private static void links() {
        ReplayedBeans beans = Check.withKinds(0, 2, 0, 1, 0, 0);
        beans.make(0);
        beans.make(1);
        beans.make(2);
        CHECK.due("to another", beans.setLink(0, 0, 2), true);
        CHECK.due("to itself", beans.setLink(0, 1, 0), true);
        CHECK.due("both", Check.show(beans, 0), "0: 0 0 0, 2 0");
        CHECK.due("to none that is there", beans.setLink(0, 0, 3), false);
        CHECK.due("to -2", beans.setLink(0, 0, -2), false);
        CHECK.due("to the lowest", beans.setLink(0, 0, Integer.MIN_VALUE), false);
        CHECK.due("to the highest", beans.setLink(0, 0, Integer.MAX_VALUE), false);
        CHECK.due("still both", Check.show(beans, 0), "0: 0 0 0, 2 0");
        CHECK.due("to NONE", beans.setLink(0, 0, -1), true);
        CHECK.due("NONE", beans.link(0, 0), -1);
        CHECK.due("link 2", beans.setLink(0, 2, 0), false);
        CHECK.due("link -1", beans.setLink(0, -1, 0), false);
        CHECK.due("link 1 of 1", beans.setLink(1, 1, 0), false);
        CHECK.due("link 0 of 1", beans.setLink(1, 0, 0), true);
        CHECK.due("link 0 of 0", beans.setLink(2, 0, -1), false);
        CHECK.due("read link 2", beans.link(0, 2), -1);
        CHECK.due("read link -1", beans.link(1, -1), -1);
        CHECK.due("read link far", beans.link(1, Integer.MAX_VALUE), -1);
        CHECK.due("read link 0", beans.link(1, 0), 0);
        CHECK.due("read link 0 of 0", beans.link(2, 0), -1);
    }

    private static void noSuchObject() {
        ReplayedBeans beans = Check.withKinds(3, 2);
        Check.makeMany(beans, 0, 24);
        for (int o : FAR) {
            CHECK.due("kind " + o, beans.kind(o), -1);
            CHECK.due("setNumber " + o, beans.setNumber(o, 0, 0), false);
            CHECK.due("setLink " + o, beans.setLink(o, 0, -1), false);
            CHECK.due("number " + o, beans.number(o, 0), 0);
            CHECK.due("link " + o, beans.link(o, 0), -1);
            CHECK.due("reachable " + o, beans.reachable(o), 0);
            CHECK.due("alike " + o, beans.alike(o, 0), false);
            CHECK.due("alike to " + o, beans.alike(0, o), false);
            CHECK.due("alike both " + o, beans.alike(o, o), false);
            CHECK.due("write " + o, beans.write(o), -1);
            if (o != -1) {
                CHECK.due("setLink to " + o, beans.setLink(0, 0, o), false);
            }
        }
    }
}
