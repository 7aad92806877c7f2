/** Promises 12 and 13: reachable, alike. */
final class AlikeTest {
    private static final Check CHECK = new Check();

    public static void main(String[] args) {
        reachable();
        reachableInLoops();
        oneObject();
        kindsAndNumbers();
        linksOfBoth();
        exactlyOne();
        withinOneAnother();
        longOnes();
        onlyTheLastPairIsWrong();
        CHECK.finish();
    }

    private static void reachable() {
        ReplayedBeans beans = Check.withKinds(0, 2);
        Check.makeMany(beans, 0, 24);
        CHECK.due("alone", beans.reachable(5), 1);
        Check.chain(beans, 1, 0, 23);
        for (int o = 0; o < 24; o++) {
            CHECK.due("chain from " + o, beans.reachable(o), 24 - o);
        }
        beans.setLink(23, 0, 0);
        CHECK.due("ring", beans.reachable(23), 24);
        CHECK.due("ring from inside", beans.reachable(11), 24);
        beans.clear();
        CHECK.due("after clear", beans.reachable(0), 0);
    }

    private static void reachableInLoops() {
        ReplayedBeans beans = Check.withKinds(0, 2);
        Check.makeMany(beans, 0, 5);
        beans.setLink(0, 0, 0);
        CHECK.due("itself", beans.reachable(0), 1);
        beans.setLink(0, 0, 1);
        beans.setLink(0, 1, 2);
        beans.setLink(1, 0, 3);
        beans.setLink(2, 0, 3);
        CHECK.due("two ways to one", beans.reachable(0), 4);
        CHECK.due("against the links", beans.reachable(3), 1);
        CHECK.due("not led to", beans.reachable(4), 1);
    }

    private static void oneObject() {
        ReplayedBeans beans = Check.withKinds(1, 2);
        beans.make(0);
        CHECK.due("with itself", beans.alike(0, 0), true);
        beans.setLink(0, 0, 0);
        CHECK.due("with itself, in a loop", beans.alike(0, 0), true);
        CHECK.due("with none", beans.alike(0, 1), false);
        CHECK.due("none with it", beans.alike(1, 0), false);
    }

    private static void kindsAndNumbers() {
        ReplayedBeans beans = Check.withKinds(3, 1, 3, 1);
        beans.make(0);
        beans.make(1);
        beans.make(0);
        CHECK.due("other kind", beans.alike(0, 1), false);
        CHECK.due("same kind", beans.alike(0, 2), true);
        for (int k = 0; k < 3; k++) {
            beans.setNumber(2, k, 5);
            CHECK.due("other number " + k, beans.alike(0, 2), false);
            beans.setNumber(0, k, 5);
            CHECK.due("same number " + k, beans.alike(0, 2), true);
        }
        beans.values(0, 0, 8, 0, 9);
        CHECK.due("the default does not matter", beans.alike(0, 2), true);
    }

    private static void linksOfBoth() {
        ReplayedBeans beans = Check.withKinds(1, 2);
        Check.makeMany(beans, 0, 6);
        beans.setLink(0, 0, 1);
        CHECK.due("NONE on the right", beans.alike(0, 2), false);
        CHECK.due("NONE on the left", beans.alike(2, 0), false);
        beans.setLink(2, 1, 3);
        CHECK.due("other link", beans.alike(0, 2), false);
        beans.setLink(2, 1, -1);
        beans.setLink(2, 0, 3);
        CHECK.due("same link", beans.alike(0, 2), true);
        beans.setNumber(3, 0, 1);
        CHECK.due("other number behind it", beans.alike(0, 2), false);
        beans.setLink(0, 0, 3);
        CHECK.due("the very same behind it", beans.alike(0, 2), true);
    }

    private static void exactlyOne() {
        ReplayedBeans beans = Check.withKinds(1, 2);
        Check.makeMany(beans, 0, 6);
        beans.setLink(0, 0, 1);
        beans.setLink(0, 1, 1);
        beans.setLink(2, 0, 3);
        beans.setLink(2, 1, 4);
        CHECK.due("one against two", beans.alike(0, 2), false);
        CHECK.due("two against one", beans.alike(2, 0), false);
        beans.setLink(2, 1, 3);
        CHECK.due("one against one", beans.alike(2, 0), true);
        beans.setLink(5, 0, 5);
        beans.setLink(5, 1, 5);
        CHECK.due("loop against what leads on", beans.alike(5, 0), false);
        beans.setLink(1, 0, 1);
        beans.setLink(1, 1, 1);
        CHECK.due("loop of one against one before it", beans.alike(5, 0), false);
        CHECK.due("the other way", beans.alike(0, 5), false);
        CHECK.due("both loops", beans.alike(1, 5), true);
    }

    private static void withinOneAnother() {
        ReplayedBeans beans = Check.withKinds(1, 1);
        Check.makeMany(beans, 0, 6);
        Check.chain(beans, 0, 0, 2);
        beans.setLink(2, 0, 0);
        CHECK.due("two of one ring", beans.alike(0, 1), true);
        Check.chain(beans, 0, 3, 4);
        beans.setLink(4, 0, 3);
        CHECK.due("rings of three and two", beans.alike(0, 3), false);
        CHECK.due("rings of two and three", beans.alike(3, 0), false);
        beans.setLink(4, 0, 5);
        beans.setLink(5, 0, 3);
        CHECK.due("rings of three", beans.alike(2, 4), true);
        beans.setNumber(1, 0, 9);
        CHECK.due("turned ring", beans.alike(0, 1), false);
        beans.setNumber(5, 0, 9);
        CHECK.due("rings turned alike", beans.alike(0, 4), true);
        CHECK.due("rings not turned alike", beans.alike(0, 3), false);
    }

    private static void longOnes() {
        ReplayedBeans beans = Check.withKinds(1, 2);
        Check.makeMany(beans, 0, 24);
        Check.chain(beans, 0, 0, 11);
        Check.chain(beans, 0, 12, 23);
        CHECK.due("long chains", beans.alike(0, 12), true);
        CHECK.due("long and shorter chain", beans.alike(0, 13), false);
        beans.setLink(11, 1, 3);
        CHECK.due("only one goes back", beans.alike(0, 12), false);
        beans.setLink(23, 1, 14);
        CHECK.due("back to another one", beans.alike(0, 12), false);
        beans.setLink(23, 1, 15);
        CHECK.due("back to the same one", beans.alike(0, 12), true);
    }

    /**
     * All 24 objects are reachable from 0 and from 1. The pairs go to and fro (0 and 1, 6 and 7, .. 22 and
     * 23) and round (2, 3, 4), and 5 goes with itself; they fit, but for the links to the round of 1 and 0.
     */
    private static void onlyTheLastPairIsWrong() {
        ReplayedBeans beans = Check.withKinds(0, 2);
        Check.makeMany(beans, 0, 24);
        for (int i = 0; i < 2; i++) {
            beans.setLink(i, 0, 2 + i);
            beans.setLink(i, 1, 6 + i);
            for (int o = 6 + i; o < 22; o += 2) {
                beans.setLink(o, 0, o + 2);
                beans.setLink(o, 1, o + 1 - 2 * i);
            }
            beans.setLink(22 + i, 0, 23 - i);
            beans.setLink(22 + i, 1, 1 - i);
        }
        for (int o = 2; o <= 4; o++) {
            beans.setLink(o, 0, o == 4 ? 2 : o + 1);
            beans.setLink(o, 1, 5);
        }
        CHECK.due("reachable from 0", beans.reachable(0), 24);
        CHECK.due("reachable from 1", beans.reachable(1), 24);
        CHECK.due("1 and 0 would be the last pair", beans.alike(0, 1), false);
        beans.setLink(0, 0, 5);
        beans.setLink(1, 0, 5);
        CHECK.due("without links to the round", beans.alike(0, 1), true);
    }
}
