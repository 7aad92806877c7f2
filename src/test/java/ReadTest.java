/** Promises 19 to 21: read, failures, failure. */
final class ReadTest {
    private static final Check CHECK = new Check();

    public static void main(String[] args) {
        wrongPlaces();
        wrongPlacesOfDigits();
        tenLevels();
        longestTexts();
        wrongTextChangesNothing();
        plainObjects();
        numberForms();
        objectsThatFail();
        fullHouse();
        namings();
        references();
        linksThatFail();
        numbersThatFail();
        failuresInOrder();
        failuresOfTheLatest();
        readsBackWhatItWrote();
        CHECK.finish();
    }

    private static void dueWrong(String text, int place) {
        ReplayedBeans beans = Check.withKinds(3, 2, 3, 2, 3, 2, 3, 2);
        CHECK.due("read " + text, Check.readAll(beans, text), -1000 - place);
        CHECK.due("count after " + text, beans.count(), 0);
        CHECK.due("text after it", Check.textOf(beans), text);
    }

    private static void wrongPlaces() {
        dueWrong("", 1);
        dueWrong("(", 2);
        dueWrong("a", 1);
        dueWrong(" (a)", 1);
        dueWrong(")", 1);
        dueWrong("@0", 1);
        dueWrong("(e)", 2);
        dueWrong("(A)", 2);
        dueWrong("()", 2);
        dueWrong("(x", 2);
        dueWrong("(`)", 2);
        dueWrong("(a", 3);
        dueWrong("(aa)", 3);
        dueWrong("(a )", 3);
        dueWrong("(a(", 3);
        dueWrong("(a=", 3);
        dueWrong("(a~", 3);
        dueWrong("(a@", 3);
        dueWrong("(a))", 4);
        dueWrong("(a)(a)", 4);
        dueWrong("(a) ", 4);
        dueWrong("(a)x=1", 4);
        dueWrong("(aw=1)", 3);
        dueWrong("(a{=1)", 3);
        dueWrong("(ao=~)", 3);
        dueWrong("(ar=~)", 3);
        dueWrong("(ax)", 4);
        dueWrong("(ax", 4);
        dueWrong("(ax=", 5);
        dueWrong("(ax=)", 5);
        dueWrong("(ax=~)", 5);
        dueWrong("(ax=@1)", 5);
        dueWrong("(ax=(a))", 5);
        dueWrong("(ax=+1)", 5);
        dueWrong("(ap=1)", 5);
        dueWrong("(ap=-1)", 5);
        dueWrong("(ap=)", 5);
        dueWrong("(ap=#1)", 5);
        dueWrong("(ap", 4);
        dueWrong("(ap(a))", 4);
        dueWrong("(ap=~~)", 6);
        dueWrong("(ap=~", 6);
        dueWrong("(ap=(a)", 8);
        dueWrong("(ap=(a)#1)", 8);
        dueWrong("(ap=(a)(a))", 8);
        dueWrong("(ap=(q=~))", 6);
        dueWrong("(ax=1#1)", 6);
        dueWrong("(a#1#2)", 5);
        dueWrong("(a#1@2)", 5);
        dueWrong("(ax=1,y=1)", 6);
        dueWrong("(ax=1 y=1)", 6);
    }

    private static void wrongPlacesOfDigits() {
        dueWrong("(a#)", 4);
        dueWrong("(a#", 4);
        dueWrong("(a#-1)", 4);
        dueWrong("(a#/)", 4);
        dueWrong("(a#:)", 4);
        dueWrong("(a#x=1)", 4);
        dueWrong("(a#1", 5);
        dueWrong("(a#12", 6);
        dueWrong("(a#123)", 6);
        dueWrong("(a#000)", 6);
        dueWrong("(ap=@)", 6);
        dueWrong("(ap=@123)", 8);
        dueWrong("(ap=@1", 7);
        dueWrong("(ap=@~)", 6);
        dueWrong("(ax=-)", 6);
        dueWrong("(ax=-", 6);
        dueWrong("(ax=--1)", 6);
        dueWrong("(ax=1-)", 6);
        dueWrong("(ax=1-1)", 6);
        dueWrong("(ax=123456)", 10);
        dueWrong("(ax=000000)", 10);
        dueWrong("(ax=-123456)", 11);
        dueWrong("(ax=12345", 10);
        dueWrong("(ax=-12345", 11);
        dueWrong("(a#12x=123456)", 13);
    }

    private static void tenLevels() {
        ReplayedBeans beans = Check.withKinds(1, 2);
        String ten = "(ap=".repeat(9) + "(a" + ")".repeat(10);
        CHECK.due("ten levels", Check.readAll(beans, ten), 0);
        CHECK.due("ten objects", beans.count(), 10);
        String twice = "(ap=(a)q=" + "(ap=".repeat(8) + "(a" + ")".repeat(10);
        CHECK.due("ten levels behind another", Check.readAll(beans, twice), 10);
        dueWrong("(ap=".repeat(10) + "(a" + ")".repeat(11), 41);
        dueWrong("(ap=".repeat(10), 41);
        dueWrong("(aq=".repeat(10) + "@", 42);
        dueWrong("(ap=".repeat(9) + "(ax=(", 41);
        dueWrong("(ap=(a)q=" + "(ap=".repeat(9) + "(", 46);
        dueWrong("(", 2);
        ReplayedBeans flat = Check.withKinds(0, 1);
        CHECK.due("many that are not deep", Check.readAll(flat, "(a" + "p=(a)".repeat(20) + ")"), 0);
        CHECK.due("many objects", flat.count(), 21);
        CHECK.due("the last one", flat.link(0, 0), 20);
    }

    private static void longestTexts() {
        ReplayedBeans beans = Check.withKinds(1, 0);
        CHECK.due("300 that are an object", Check.readAll(beans, "(a" + "x=1".repeat(99) + ")"), 0);
        CHECK.due("no failures", beans.failures(), 0);
        ReplayedBeans open = Check.withKinds(1, 0);
        CHECK.due("300 that can begin one", Check.readAll(open, "(a" + "x=1".repeat(99) + "x"), -1301);
        ReplayedBeans many = Check.withKinds(0, 0);
        String failing = "(a" + "p=(b#0)".repeat(42) + "x=1)";
        CHECK.due("many failures", Check.readAll(many, failing), 0);
        CHECK.due("how many", many.failures(), 127);
        CHECK.due("the first", many.failure(0), 5);
        CHECK.due("the last", many.failure(126), 297);
        CHECK.due("behind the last", many.failure(127), 0);
    }

    private static void wrongTextChangesNothing() {
        ReplayedBeans beans = Check.withKinds(1, 1);
        Check.readAll(beans, "(ay=1)");
        CHECK.due("wrong at the end", Check.readAll(beans, "(ax=2p=(b)"), -1011);
        CHECK.due("count", beans.count(), 1);
        CHECK.due("failures stay", Check.failuresOf(beans), "3");
        CHECK.due("text stays", Check.textOf(beans), "(ax=2p=(b)");
        beans.type(')');
        CHECK.due("after the bracket", beans.read(), 1);
        CHECK.due("failures now", Check.failuresOf(beans), "8 6");
    }

    private static void plainObjects() {
        ReplayedBeans beans = Check.withKinds(3, 2, 1, 1);
        beans.values(0, 1, 7, 0, 9);
        CHECK.due("read", Check.readAll(beans, "(az=5x=-1q=(bp=~)p=(bx=2)x=4)"), 0);
        CHECK.due("object 0", Check.show(beans, 0), "0: 4 7 5, 2 1");
        CHECK.due("object 1", Check.show(beans, 1), "1: 0 0 0, -1 -1");
        CHECK.due("object 2", Check.show(beans, 2), "1: 2 0 0, -1 -1");
        CHECK.due("failures", beans.failures(), 0);
        CHECK.due("read again", beans.read(), 3);
        CHECK.due("the first ones stay", Check.show(beans, 0), "0: 4 7 5, 2 1");
        CHECK.due("object 3", Check.show(beans, 3), "0: 4 7 5, 5 4");
        CHECK.due("alike", beans.alike(0, 3), true);
        CHECK.due("NONE over an object", Check.readAll(beans, "(ap=(b)p=~)"), 6);
        CHECK.due("object 6", Check.show(beans, 6), "0: 0 7 0, -1 -1");
        beans.values(0, 1, 3, 0, 9);
        CHECK.due("default of now", Check.readAll(beans, "(a)"), 8);
        CHECK.due("object 8", Check.show(beans, 8), "0: 0 3 0, -1 -1");
    }

    private static void numberForms() {
        ReplayedBeans beans = Check.withKinds(3, 0);
        for (int k = 0; k < 3; k++) {
            beans.values(0, k, 1, -99999, 99999);
        }
        Check.readAll(beans, "(ax=99999y=-99999z=00012)");
        CHECK.due("widest", Check.show(beans, 0), "0: 99999 -99999 12, -1 -1");
        Check.readAll(beans, "(ax=-0y=00000z=-00900)");
        CHECK.due("zeros", Check.show(beans, 1), "0: 0 0 -900, -1 -1");
        CHECK.due("failures", beans.failures(), 0);
    }

    private static void objectsThatFail() {
        ReplayedBeans beans = Check.withKinds(1, 1);
        CHECK.due("not defined", Check.readAll(beans, "(b)"), -1);
        CHECK.due("its failure", Check.failuresOf(beans), "1");
        CHECK.due("nothing made", beans.count(), 0);
        CHECK.due("all of it fails", Check.readAll(beans, "(b#1x=1p=~q=@1)"), -1);
        CHECK.due("its failures", Check.failuresOf(beans), "1 3 5 8 11");
        CHECK.due("within one that failed", Check.readAll(beans, "(cp=(ax=3p=(d)))"), -1);
        CHECK.due("within, failures", Check.failuresOf(beans), "1 12 10 3");
        CHECK.due("within, made", beans.count(), 1);
        CHECK.due("within, object", Check.show(beans, 0), "0: 3 0 0, -1 -1");
        CHECK.due("past what fails", Check.readAll(beans, "(ap=(b)x=6)"), 1);
        CHECK.due("past, failures", Check.failuresOf(beans), "5 3");
        CHECK.due("past, object", Check.show(beans, 1), "0: 6 0 0, -1 -1");
    }

    private static void fullHouse() {
        ReplayedBeans beans = Check.withKinds(1, 2);
        Check.makeMany(beans, 0, 22);
        CHECK.due("two are left", Check.readAll(beans, "(a#1p=(a#2x=5)q=(a#3x=6)x=7q=@2p=@3)"), 22);
        CHECK.due("failures", Check.failuresOf(beans), "17 19 21 15 32");
        CHECK.due("count", beans.count(), 24);
        CHECK.due("object 22", Check.show(beans, 22), "0: 7 0 0, 23 23");
        CHECK.due("none is left", beans.read(), -1);
        CHECK.due("count stays", beans.count(), 24);
        beans.clear();
        CHECK.due("all are left", beans.read(), 0);
        CHECK.due("no failures", beans.failures(), 0);
        CHECK.due("three made", beans.count(), 3);
    }

    private static void namings() {
        ReplayedBeans beans = Check.withKinds(1, 2);
        CHECK.due("named twice", Check.readAll(beans, "(a#7p=(a#07)q=@7)"), 0);
        CHECK.due("named twice, failures", Check.failuresOf(beans), "9");
        CHECK.due("names the first", Check.show(beans, 0), "0: 0 0 0, 1 0");
        beans.clear();
        CHECK.due("of one that failed", Check.readAll(beans, "(ap=(b#3)p=(a#3)q=@03)"), 0);
        CHECK.due("of one that failed, failures", Check.failuresOf(beans), "5 7 3");
        CHECK.due("the name was free", Check.show(beans, 0), "0: 0 0 0, 1 1");
        beans.clear();
        CHECK.due("0 and 00", Check.readAll(beans, "(a#0p=@00q=(a#99p=@99q=@0))"), 0);
        CHECK.due("0 and 00, object 0", Check.show(beans, 0), "0: 0 0 0, 0 1");
        CHECK.due("0 and 00, object 1", Check.show(beans, 1), "0: 0 0 0, 1 0");
        CHECK.due("0 and 00, failures", beans.failures(), 0);
        beans.clear();
        CHECK.due("7 and 70", Check.readAll(beans, "(a#7p=(a#70)q=@70)"), 0);
        CHECK.due("7 and 70, object", Check.show(beans, 0), "0: 0 0 0, 1 1");
        CHECK.due("names of another reading", Check.readAll(beans, "(ap=@7q=@70)"), 2);
        CHECK.due("another reading, failures", Check.failuresOf(beans), "3 7");
    }

    private static void references() {
        ReplayedBeans beans = Check.withKinds(1, 2);
        CHECK.due("before the name", Check.readAll(beans, "(ap=@1q=(a#1p=@1))"), 0);
        CHECK.due("before the name, failures", Check.failuresOf(beans), "3");
        CHECK.due("object 0", Check.show(beans, 0), "0: 0 0 0, -1 1");
        CHECK.due("object 1", Check.show(beans, 1), "0: 0 0 0, 1 -1");
        beans.clear();
        CHECK.due("to the outermost", Check.readAll(beans, "(a#5p=(ap=(aq=@5)))"), 0);
        CHECK.due("innermost", Check.show(beans, 2), "0: 0 0 0, -1 0");
        beans.clear();
        Check.readAll(beans, "(a#1p=@1p=@2)");
        CHECK.due("what fails leaves the value", Check.show(beans, 0), "0: 0 0 0, 0 -1");
        CHECK.due("its place", Check.failuresOf(beans), "9");
    }

    private static void linksThatFail() {
        ReplayedBeans beans = Check.withKinds(0, 0, 0, 1);
        CHECK.due("no links", Check.readAll(beans, "(a#1p=~q=@1p=(b))"), 0);
        CHECK.due("no links, failures", Check.failuresOf(beans), "5 8 12");
        CHECK.due("made all the same", beans.count(), 2);
        CHECK.due("one link", Check.readAll(beans, "(b#1q=~q=(a)p=@1)"), 2);
        CHECK.due("one link, failures", Check.failuresOf(beans), "5 8");
        CHECK.due("one link, object", Check.show(beans, 2), "1: 0 0 0, 2 -1");
        CHECK.due("only one for the statement", Check.readAll(beans, "(aq=@4)"), 4);
        CHECK.due("counts once", Check.failuresOf(beans), "3");
    }

    private static void numbersThatFail() {
        ReplayedBeans beans = Check.withKinds(2, 0);
        beans.values(0, 0, 1, -3, 3);
        CHECK.due("edges", Check.readAll(beans, "(ax=-3x=-4)"), 0);
        CHECK.due("below, failure", Check.failuresOf(beans), "7");
        CHECK.due("at the least", beans.number(0, 0), -3);
        CHECK.due("edges above", Check.readAll(beans, "(ax=3x=4)"), 1);
        CHECK.due("above, failure", Check.failuresOf(beans), "6");
        CHECK.due("at the greatest", beans.number(1, 0), 3);
        CHECK.due("no such number", Check.readAll(beans, "(az=0y=1000y=1001)"), 2);
        CHECK.due("no such number, failures", Check.failuresOf(beans), "3 12");
        beans.values(0, 1, 0, 0, 5);
        CHECK.due("bounds of now", Check.readAll(beans, "(ay=6y=5)"), 3);
        CHECK.due("bounds of now, failures", Check.failuresOf(beans), "3");
        CHECK.due("bounds of now, object", Check.show(beans, 3), "0: 1 5 0, -1 -1");
    }

    private static void failuresInOrder() {
        ReplayedBeans beans = Check.withKinds(1, 2, 1, 1);
        String text = "(a#1y=1p=(b#1z=2q=(c#4x=1)p=@4)q=@2x=2)";
        CHECK.due("read", Check.readAll(beans, text), 0);
        CHECK.due("failures", Check.failuresOf(beans), "5 12 14 19 21 23 17 27 32");
        CHECK.due("failure -1", beans.failure(-1), 0);
        CHECK.due("failure 9", beans.failure(9), 0);
        CHECK.due("failure lowest", beans.failure(Integer.MIN_VALUE), 0);
        CHECK.due("failure highest", beans.failure(Integer.MAX_VALUE), 0);
        CHECK.due("object 0", Check.show(beans, 0), "0: 2 0 0, 1 -1");
    }

    private static void failuresOfTheLatest() {
        ReplayedBeans beans = Check.withKinds(0, 0);
        Check.readAll(beans, "(ax=1y=1)");
        CHECK.due("two", Check.failuresOf(beans), "3 6");
        Check.readAll(beans, "(az=1)");
        CHECK.due("one", Check.failuresOf(beans), "3");
        CHECK.due("the older one is gone", beans.failure(1), 0);
        Check.readAll(beans, "(a)");
        CHECK.due("none", beans.failures(), 0);
        CHECK.due("none at 0", beans.failure(0), 0);
        Check.readAll(beans, "(b)");
        beans.make(0);
        beans.write(0);
        CHECK.due("writing is no reading", Check.failuresOf(beans), "1");
    }

    private static void readsBackWhatItWrote() {
        ReplayedBeans beans = Check.withKinds(3, 2, 1, 2);
        beans.values(0, 2, -5, -99999, 99999);
        Check.makeMany(beans, 0, 4);
        Check.makeMany(beans, 1, 4);
        for (int o = 0; o < 8; o++) {
            beans.setNumber(o, 0, 100 - 30 * o);
            beans.setNumber(o, 2, 99999 - o);
            beans.setLink(o, 0, (3 * o + 1) % 8);
            beans.setLink(o, 1, (o + 1) % 8);
        }
        int length = beans.write(2);
        CHECK.due("length", beans.length(), length);
        CHECK.due("read", beans.read(), 8);
        CHECK.due("failures", beans.failures(), 0);
        CHECK.due("reachable", beans.reachable(8), beans.reachable(2));
        CHECK.due("alike", beans.alike(2, 8), true);
        CHECK.due("alike to another", beans.alike(3, 8), false);
        CHECK.due("written again", beans.write(8), length);
    }
}
