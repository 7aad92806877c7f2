/** Promise 14: write. */
final class WriteTest {
    private static final Check CHECK = new Check();

    public static void main(String[] args) {
        kindsAlone();
        numbers();
        defaultsOfNow();
        shared();
        sharedRoot();
        onlyLinksOfReachableOnes();
        idsInOrder();
        idsOfTwoDigits();
        tooDeep();
        deepByTheWayOfWriting();
        tooLong();
        tooDeepBeforeTooLong();
        writesAgain();
        CHECK.finish();
    }

    private static void dueText(String what, ReplayedBeans beans, int r, String want) {
        CHECK.due(what + ": write", beans.write(r), want.length());
        CHECK.due(what + ": length", beans.length(), want.length());
        CHECK.due(what + ": text", Check.textOf(beans), want);
    }

    private static void kindsAlone() {
        ReplayedBeans beans = Check.withKinds(0, 0, 1, 1, 2, 2, 3, 2);
        for (int kind = 0; kind < 4; kind++) {
            beans.make(kind);
            dueText("kind " + kind, beans, kind, "(" + "abcd".charAt(kind) + ")");
        }
    }

    private static void numbers() {
        ReplayedBeans beans = Check.withKinds(3, 0);
        for (int k = 0; k < 3; k++) {
            beans.values(0, k, k, -99999, 99999);
        }
        beans.make(0);
        dueText("defaults", beans, 0, "(a)");
        beans.setNumber(0, 1, 0);
        dueText("0 that is no default", beans, 0, "(ay=0)");
        beans.setNumber(0, 0, -7);
        beans.setNumber(0, 2, 10);
        dueText("all three", beans, 0, "(ax=-7y=0z=10)");
        int[] some = {1, 9, 10, 99, 100, 101, 999, 1000, 9999, 10000, 10203, 99999};
        beans.setNumber(0, 1, 1);
        beans.setNumber(0, 2, 2);
        for (int v : some) {
            beans.setNumber(0, 0, v);
            dueText("number " + v, beans, 0, "(ax=" + v + ")");
            beans.setNumber(0, 0, -v);
            dueText("number -" + v, beans, 0, "(ax=-" + v + ")");
        }
    }

    private static void defaultsOfNow() {
        ReplayedBeans beans = Check.withKinds(1, 0);
        beans.make(0);
        beans.setNumber(0, 0, 4);
        beans.values(0, 0, 4, 0, 5);
        dueText("became the default", beans, 0, "(a)");
        beans.values(0, 0, 1, 0, 3);
        dueText("no default, and out of bounds", beans, 0, "(ax=4)");
        beans.make(0);
        dueText("new one", beans, 1, "(a)");
        beans.values(0, 0, 0, 0, 3);
        dueText("the default went away", beans, 1, "(ax=1)");
    }

    private static void shared() {
        ReplayedBeans beans = Check.withKinds(1, 2);
        Check.makeMany(beans, 0, 4);
        beans.setLink(0, 0, 1);
        dueText("one link", beans, 0, "(ap=(a))");
        beans.setLink(0, 0, -1);
        beans.setLink(0, 1, 1);
        dueText("the other link", beans, 0, "(aq=(a))");
        beans.setLink(0, 0, 1);
        dueText("both links to one", beans, 0, "(ap=(a#0)q=@0)");
        beans.setLink(0, 0, 2);
        dueText("two links to two", beans, 0, "(ap=(a)q=(a))");
        beans.setNumber(3, 0, -3);
        beans.setLink(1, 0, 3);
        beans.setLink(2, 1, 3);
        dueText("two ways", beans, 0, "(ap=(aq=(a#0x=-3))q=(ap=@0))");
        beans.setLink(3, 0, 3);
        beans.setLink(1, 0, -1);
        dueText("one way and itself", beans, 0, "(ap=(aq=(a#0x=-3p=@0))q=(a))");
    }

    private static void sharedRoot() {
        ReplayedBeans beans = Check.withKinds(1, 2);
        Check.makeMany(beans, 0, 3);
        beans.setLink(0, 0, 0);
        dueText("itself", beans, 0, "(a#0p=@0)");
        beans.setLink(0, 1, 0);
        dueText("itself twice", beans, 0, "(a#0p=@0q=@0)");
        beans.setLink(0, 1, 1);
        beans.setLink(0, 0, -1);
        beans.setLink(1, 0, 0);
        dueText("back to the first", beans, 0, "(a#0q=(ap=@0))");
        dueText("from the other", beans, 1, "(a#0p=(aq=@0))");
    }

    private static void onlyLinksOfReachableOnes() {
        ReplayedBeans beans = Check.withKinds(1, 2);
        Check.makeMany(beans, 0, 4);
        beans.setLink(0, 0, 1);
        beans.setLink(2, 0, 1);
        beans.setLink(3, 0, 0);
        dueText("links from elsewhere", beans, 0, "(ap=(a))");
        beans.setLink(1, 0, 2);
        dueText("links from within", beans, 0, "(ap=(a#0p=(ap=@0)))");
    }

    private static void idsInOrder() {
        ReplayedBeans beans = Check.withKinds(0, 2);
        Check.makeMany(beans, 0, 4);
        beans.setLink(0, 0, 3);
        beans.setLink(0, 1, 1);
        beans.setLink(3, 0, 2);
        beans.setLink(3, 1, 2);
        beans.setLink(1, 0, 3);
        beans.setLink(1, 1, 0);
        dueText("three ids", beans, 0, "(a#0p=(a#1p=(a#2)q=@2)q=(ap=@1q=@0))");
    }

    /** Objects 0 to 10 lead to two each; 11 to 22 lead to themselves. */
    private static void idsOfTwoDigits() {
        ReplayedBeans beans = Check.withKinds(0, 2);
        Check.makeMany(beans, 0, 23);
        for (int o = 0; o <= 10; o++) {
            beans.setLink(o, 0, 2 * o + 1);
            beans.setLink(o, 1, 2 * o + 2);
        }
        for (int o = 11; o <= 22; o++) {
            beans.setLink(o, 0, o);
        }
        StringBuilder want = new StringBuilder();
        addTree(0, want, 0);
        dueText("ids up to 11", beans, 0, want.toString());
        CHECK.due("id 11 is there", want.indexOf("(a#11p=@11)") > 0, true);
    }

    private static int addTree(int o, StringBuilder want, int id) {
        if (o > 10) {
            want.append("(a#").append(id).append("p=@").append(id).append(")");
            return id + 1;
        }
        want.append("(ap=");
        int next = addTree(2 * o + 1, want, id);
        want.append("q=");
        next = addTree(2 * o + 2, want, next);
        want.append(")");
        return next;
    }

    private static void tooDeep() {
        ReplayedBeans beans = Check.withKinds(0, 2);
        Check.makeMany(beans, 0, 12);
        Check.typeAll(beans, "kept");
        Check.chain(beans, 0, 0, 10);
        CHECK.due("inside of ten", beans.write(0), -2);
        CHECK.due("text when too deep", Check.textOf(beans), "kept");
        dueText("inside of nine", beans, 1, "(ap=".repeat(9) + "(a" + ")".repeat(10));
        beans.setLink(10, 1, 1);
        dueText("inside of nine, and back", beans, 1, "(a#0p=" + "(ap=".repeat(8) + "(aq=@0" + ")".repeat(10));
        CHECK.due("still inside of ten", beans.write(0), -2);
        beans.setLink(10, 1, 11);
        CHECK.due("now inside of ten", beans.write(1), -2);
    }

    private static void deepByTheWayOfWriting() {
        ReplayedBeans beans = Check.withKinds(0, 2);
        Check.makeMany(beans, 0, 11);
        Check.chain(beans, 0, 0, 10);
        beans.setLink(0, 1, 5);
        CHECK.due("the first link goes first", beans.write(0), -2);
        beans.setLink(0, 1, 1);
        beans.setLink(0, 0, 5);
        String deep = "(ap=(a#0" + "p=(a".repeat(5) + ")".repeat(6) + "q=" + "(ap=".repeat(4) + "@0" + ")".repeat(5);
        dueText("the short way goes first", beans, 0, deep);
    }

    /** A chain of ten, each with 27 characters beside its link. */
    private static ReplayedBeans longChain() {
        ReplayedBeans beans = Check.withKinds(3, 2);
        for (int k = 0; k < 3; k++) {
            beans.values(0, k, 0, -99999, 99999);
        }
        Check.makeMany(beans, 0, 10);
        Check.chain(beans, 0, 0, 9);
        for (int o = 0; o < 10; o++) {
            for (int k = 0; k < 3; k++) {
                beans.setNumber(o, k, -99999);
            }
        }
        return beans;
    }

    private static void tooLong() {
        ReplayedBeans beans = longChain();
        Check.typeAll(beans, "kept");
        CHECK.due("288 characters", beans.write(0), 288);
        beans.setLink(9, 1, 9);
        CHECK.due("288 and #0, q=@0", beans.write(0), 294);
        beans.setLink(8, 1, 9);
        CHECK.due("298", beans.write(0), 298);
        beans.setNumber(0, 0, 0);
        beans.setLink(7, 1, 9);
        CHECK.due("294 again", beans.write(0), 294);
        beans.setNumber(0, 0, 9999);
        CHECK.due("300", beans.write(0), 300);
        CHECK.due("at 300", beans.at(300), ')');
        beans.setNumber(0, 0, 10000);
        CHECK.due("301", beans.write(0), -3);
        CHECK.due("length when too long", beans.length(), 300);
        CHECK.due("text when too long", beans.at(5), '9');
        beans.setNumber(0, 0, -99999);
        CHECK.due("far too long", beans.write(0), -3);
        CHECK.due("a part of it", beans.write(5), 157);
    }

    private static void tooDeepBeforeTooLong() {
        ReplayedBeans beans = longChain();
        Check.makeMany(beans, 0, 12);
        beans.setLink(0, 1, 10);
        Check.chain(beans, 1, 10, 18);
        for (int o = 0; o < 19; o++) {
            beans.setNumber(o, 0, -9999);
            beans.setNumber(o, 1, -9999);
        }
        CHECK.due("too long alone", beans.write(0), -3);
        beans.setLink(18, 0, 19);
        CHECK.due("too deep behind the 300th", beans.write(0), -2);
    }

    private static void writesAgain() {
        ReplayedBeans beans = Check.withKinds(1, 2);
        Check.makeMany(beans, 0, 3);
        beans.setLink(0, 0, 1);
        beans.setLink(0, 1, 1);
        Check.typeAll(beans, "something that is longer");
        dueText("over a longer text", beans, 0, "(ap=(a#0)q=@0)");
        dueText("once more", beans, 0, "(ap=(a#0)q=@0)");
        dueText("shorter", beans, 2, "(a)");
        CHECK.due("type behind it", beans.type('!'), true);
        CHECK.due("typed behind it", Check.textOf(beans), "(a)!");
        CHECK.due("count", beans.count(), 3);
        CHECK.due("no reading", beans.failures(), 0);
        CHECK.due("write of none", beans.write(3), -1);
        CHECK.due("text after it", Check.textOf(beans), "(a)!");
    }
}
