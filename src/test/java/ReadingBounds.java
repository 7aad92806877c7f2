/** The sentences of "Terms" on what an object in the text is, on reading, and on failures. */
final class ReadingBounds {
    private static final String PART = "Terms";
    private static final String DIGITS = "0123456789";
    private static final String BODY = "xyzpq)";
    private static final String LETTERS_AND_DIGITS = "kind is a letter a .. d, property a letter x, y, z (of"
        + " numbers) or p, q (of links); digits are one to five of 0 .. 9, id is one or two, and means the"
        + " number (07 is 7); any number of statements, nothing between what is said here.";
    private static final String DEPTH = "In an object there may be objects up to nine deep: one that stands"
        + " inside of nine others has no place for a further object in it.";
    private static final String NO_OBJECT = "READING: if the text is no object, the answer tells the least"
        + " place so that no object (of any length) begins with the characters up to there (one more than"
        + " the characters, if all of them can begin one), and nothing changes.";
    private static final String MAKING = "( and a kind's letter make an object; that FAILS if the kind is not"
        + " defined or 24 objects are there.";
    private static final String NAMING = "# and an id, which name it for @ from then on, fail if the object"
        + " failed or the id names one already (it names that one further on).";
    private static final String STATEMENT_FAILS = "A statement fails if the object that it stands in failed,"
        + " its value failed, that object's kind has no such property, or a number is less than the least or"
        + " more than the greatest.";
    private static final String PLACES = "Each failure of an object, of a naming and of a statement counts 1,"
        + " and has a PLACE: that of the (, of the #, of the property's letter.";

    private final Sentences s;

    ReadingBounds(Sentences s) {
        this.s = s;
    }

    void run() {
        objectForm();
        statementForm();
        numberForm();
        linkForm();
        kindAndPropertyLetters();
        oneToFiveDigits();
        idOfOneOrTwoDigits();
        idMeansTheNumber();
        anyNumberOfStatements();
        nothingBetween();
        nineDeep();
        noPlaceInTheTenth();
        emptyAndWholeTexts();
        textsThatCanBeginAnObject();
        textsOf300();
        wrongTextChangesNothing();
        fromLeftToRight();
        kindsThatAreNotDefined();
        the25thObject();
        namesFromThenOn();
        namingWhatFailed();
        namingTwice();
        statementsInOrder();
        valueThatIsAnObject();
        valueThatIsNamed();
        valueThatIsNone();
        statementInWhatFailed();
        statementWhoseValueFailed();
        statementOfNoProperty();
        statementOutOfBounds();
        propertyGetsTheValue();
        placesOfFailures();
        objectAndStatementCountOne();
        orderOfFailures();
    }

    private void of(String words) {
        s.of(PART, words);
    }

    /** That behind these characters the allowed ones may stand, and no other of the 95. */
    private void dueNext(String before, String allowed) {
        for (char c = 32; c <= 126; c++) {
            ReplayedBeans beans = Check.withKinds(3, 2, 3, 2, 3, 2, 3, 2);
            int got = Check.readAll(beans, before + c);
            boolean taken = got != -1001 - before.length();
            s.due("read() of " + before + c + " takes the last one", taken, allowed.indexOf(c) >= 0);
            if (taken && got != 0) {
                s.due("read() of " + before + c, got, -1002 - before.length());
            }
        }
    }

    private void objectForm() {
        of("object = ( kind [# id] statements )");
        dueNext("", "(");
        dueNext("(", "abcd");
        dueNext("(a", "#" + BODY);
        dueNext("(a#", DIGITS);
        dueNext("(a#1", DIGITS + BODY);
        dueNext("(a#12", BODY);
        dueNext("(a)", "");
        dueNext("(a#1)", "");
        dueNext("(ax=1)", "");
    }

    private void statementForm() {
        of("statement = property = value");
        for (char property : "xyzpq".toCharArray()) {
            dueNext("(d" + property, "=");
        }
    }

    private void numberForm() {
        of("value of a number property = [-] digits");
        for (char property : "xyz".toCharArray()) {
            dueNext("(b" + property + "=", "-" + DIGITS);
        }
        dueNext("(ax=-", DIGITS);
        dueNext("(ax=-1", DIGITS + BODY);
        dueNext("(ax=1", DIGITS + BODY);
    }

    private void linkForm() {
        of("value of a link property = object, or @ id, or ~");
        dueNext("(cp=", "(@~");
        dueNext("(cq=", "(@~");
        dueNext("(ap=(", "abcd");
        dueNext("(ap=(b", "#" + BODY);
        dueNext("(ap=(b)", BODY);
        dueNext("(ap=@", DIGITS);
        dueNext("(ap=@1", DIGITS + BODY);
        dueNext("(ap=@12", BODY);
        dueNext("(ap=~", BODY);
    }

    private void kindAndPropertyLetters() {
        of(LETTERS_AND_DIGITS);
        for (char kind : "abcd".toCharArray()) {
            s.dueRead(Check.withKinds(3, 2, 3, 2, 3, 2, 3, 2), "(" + kind + "x=1y=2z=3p=~q=~)", 0, "");
        }
        s.due("kind `", Check.readAll(Check.withKinds(3, 2), "(ap=(`))"), -1006);
        s.due("kind e", Check.readAll(Check.withKinds(3, 2), "(ap=(e))"), -1006);
        s.due("kind A", Check.readAll(Check.withKinds(3, 2), "(A)"), -1002);
        for (char property : "w{orXZPQ".toCharArray()) {
            s.due("property " + property, Check.readAll(Check.withKinds(3, 2), "(ax=1" + property), -1006);
        }
    }

    private void oneToFiveDigits() {
        of(LETTERS_AND_DIGITS);
        ReplayedBeans beans = Check.withKinds(1, 0);
        beans.values(0, 0, 7, -99999, 99999);
        String[] taken = {"0", "9", "00000", "99999", "-0", "-9", "-00000", "-99999", "00012", "-00012"};
        for (int i = 0; i < taken.length; i++) {
            s.dueRead(beans, "(ax=" + taken[i] + ")", i, "");
            s.due("its number", beans.number(i, 0), Integer.parseInt(taken[i]));
        }
        s.due("no digit", Check.readAll(beans, "(ax=)"), -1005);
        s.due("no digit behind -", Check.readAll(beans, "(ax=-)"), -1006);
        s.due("six digits", Check.readAll(beans, "(ax=000001)"), -1010);
        s.due("six digits behind -", Check.readAll(beans, "(ax=-000001)"), -1011);
        s.due("six digits behind others", Check.readAll(beans, "(ax=12345x=123456)"), -1017);
        s.due("before 0", Check.readAll(beans, "(ax=/)"), -1005);
        s.due("after 9", Check.readAll(beans, "(ax=:)"), -1005);
        dueNext("(ax=1234", DIGITS + BODY);
        dueNext("(ax=12345", BODY);
        dueNext("(ax=-1234", DIGITS + BODY);
        dueNext("(ax=-12345", BODY);
    }

    private void idOfOneOrTwoDigits() {
        of(LETTERS_AND_DIGITS);
        for (String id : new String[] {"0", "9", "00", "09", "10", "99"}) {
            ReplayedBeans beans = Check.withKinds(0, 1);
            s.dueRead(beans, "(a#" + id + "p=@" + id + ")", 0, "");
            s.dueObject(beans, 0, "0: 0 0 0, 0 -1");
        }
        ReplayedBeans beans = Check.withKinds(0, 1);
        s.due("# without a digit", Check.readAll(beans, "(a#)"), -1004);
        s.due("# with three", Check.readAll(beans, "(a#001)"), -1006);
        s.due("@ without a digit", Check.readAll(beans, "(ap=@)"), -1006);
        s.due("@ with three", Check.readAll(beans, "(ap=@001)"), -1008);
        s.due("# and -", Check.readAll(beans, "(a#-1)"), -1004);
        s.due("five digits behind an id", Check.readAll(beans, "(a#12x=123456)"), -1013);
    }

    private void idMeansTheNumber() {
        of(LETTERS_AND_DIGITS);
        ReplayedBeans beans = Check.withKinds(0, 2);
        s.dueRead(beans, "(a#07p=@7q=(a#0p=@00q=@07))", 0, "");
        s.dueObject(beans, 0, "0: 0 0 0, 0 1");
        s.dueObject(beans, 1, "0: 0 0 0, 1 0");
        s.dueRead(beans, "(a#7p=(a#70)q=(a#77p=@70q=@07))", 2, "");
        s.dueObject(beans, 2, "0: 0 0 0, 3 4");
        s.dueObject(beans, 4, "0: 0 0 0, 3 2");
        s.dueRead(beans, "(a#7p=(a#07))", 5, "9");
    }

    private void anyNumberOfStatements() {
        of(LETTERS_AND_DIGITS);
        ReplayedBeans beans = Check.withKinds(1, 0);
        s.dueRead(beans, "(a)", 0, "");
        s.dueRead(beans, "(ax=1)", 1, "");
        ReplayedBeans many = Check.withKinds(1, 0);
        s.dueRead(many, "(a" + "x=1".repeat(98) + "x=2)", 0, "");
        s.due("the 99th counts", many.number(0, 0), 2);
        ReplayedBeans inner = Check.withKinds(1, 1);
        s.dueRead(inner, "(ap=(a" + "x=1".repeat(96) + "x=2))", 0, "");
        s.due("the 97th within another counts", inner.number(1, 0), 2);
    }

    private void nothingBetween() {
        of(LETTERS_AND_DIGITS);
        String text = "(a#12x=-5p=(bz=7)q=@12p=~y=0)";
        s.dueRead(Check.withKinds(3, 2, 3, 2), text, 0, "");
        for (int place = 1; place <= text.length() + 1; place++) {
            for (char between : " ,;".toCharArray()) {
                String apart = text.substring(0, place - 1) + between + text.substring(place - 1);
                ReplayedBeans beans = Check.withKinds(3, 2, 3, 2);
                s.due("read() of " + apart, Check.readAll(beans, apart), -1000 - place);
            }
        }
    }

    private void nineDeep() {
        of(DEPTH);
        ReplayedBeans beans = Check.withKinds(0, 2);
        s.dueRead(beans, "(ap=".repeat(9) + "(a" + ")".repeat(10), 0, "");
        s.due("inside of nine others", beans.reachable(0), 10);
        s.dueRead(beans, "(ap=(a)q=" + "(aq=".repeat(8) + "(a" + ")".repeat(10), 10, "");
        s.due("inside of nine others behind another one", beans.reachable(10), 11);
        ReplayedBeans flat = Check.withKinds(0, 2);
        s.dueRead(flat, "(a" + "q=(a)".repeat(20) + ")", 0, "");
        s.due("twenty inside of one", flat.count(), 21);
        ReplayedBeans written = Check.withKinds(0, 2);
        Check.makeMany(written, 0, 11);
        Check.chain(written, 1, 0, 10);
        s.dueWritten(written, 1, "(aq=".repeat(9) + "(a" + ")".repeat(10));
        s.due("write(0), inside of ten others", written.write(0), -2);
    }

    private void noPlaceInTheTenth() {
        of(DEPTH);
        String ten = "(ap=".repeat(9) + "(a";
        dueNext(ten, "#" + BODY);
        dueNext(ten + "p=", "@~");
        dueNext(ten + "q=", "@~");
        dueNext("(ap=".repeat(8) + "(aq=", "(@~");
        dueNext(ten + ")q=", "(@~");
        dueNext("(ap=(a)q=" + "(ap=".repeat(8) + "(aq=", "@~");
        ReplayedBeans beans = Check.withKinds(0, 2);
        s.dueRead(beans, "(a#1p=" + "(ap=".repeat(8) + "(ap=@1q=~" + ")".repeat(10), 0, "");
        s.due("@ in the tenth", beans.link(9, 0), 0);
        s.due("an eleventh", Check.readAll(beans, "(ap=".repeat(10) + "(a" + ")".repeat(11)), -1041);
        s.due("count()", beans.count(), 10);
    }

    private void emptyAndWholeTexts() {
        of(NO_OBJECT);
        s.due("an empty text", Check.withKinds(0, 0).read(), -1001);
        s.due("wrong at the first", Check.readAll(Check.withKinds(0, 0), "a)"), -1001);
        s.due("wrong behind an object", Check.readAll(Check.withKinds(0, 0), "(a))"), -1004);
        s.due("two objects", Check.readAll(Check.withKinds(0, 0), "(a)(a)"), -1004);
        s.due("the least of two places", Check.readAll(Check.withKinds(0, 0), "(a,b,"), -1003);
        s.due("a kind that is not defined", Check.readAll(Check.withKinds(0, 0), "(dp=1)"), -1005);
    }

    private void textsThatCanBeginAnObject() {
        of(NO_OBJECT);
        String text = "(a#12x=-5p=(bz=7)q=@12p=~y=0)";
        for (int size = 0; size < text.length(); size++) {
            ReplayedBeans beans = Check.withKinds(3, 2, 3, 2);
            String begun = text.substring(0, size);
            s.due("read() of " + begun, Check.readAll(beans, begun), -1001 - size);
            s.due("count() after " + begun, beans.count(), 0);
        }
        s.due("read() of " + text, Check.readAll(Check.withKinds(3, 2, 3, 2), text), 0);
    }

    private void textsOf300() {
        of(NO_OBJECT);
        String most = "(a" + "x=1".repeat(98);
        s.due("an object of 300", Check.readAll(Check.withKinds(1, 1), most + "x=1)"), 0);
        s.due("one of more would begin so", Check.readAll(Check.withKinds(1, 1), most + "x=11"), -1301);
        s.due("a longer one would", Check.readAll(Check.withKinds(1, 1), most + "p=(a"), -1301);
        s.due("wrong at 300", Check.readAll(Check.withKinds(1, 1), most + "x=1("), -1300);
        s.due("wrong at 299", Check.readAll(Check.withKinds(1, 1), most + "x=))"), -1299);
        String less = "(a" + "x=1".repeat(97) + "x=123)";
        s.due("one behind an object of 299", Check.readAll(Check.withKinds(1, 1), less + ")"), -1300);
        s.due("299 that can begin one", Check.readAll(Check.withKinds(1, 1), most + "x=1"), -1300);
    }

    private void wrongTextChangesNothing() {
        of(NO_OBJECT);
        String[] wrong = {"", "(", "(a)(a)", "(ax=5p=(a#1x=6)q=@1", "(bx=1y=2z=3p=(c)", "(ax=123456)"};
        for (String text : wrong) {
            s.changesNothing("read() of " + text, beans -> {
                beans.define(0, 2, 2);
                beans.make(0);
                Check.readAll(beans, "(a#3z=1p=@4q=(d#5))");
                beans.wipe();
                Check.typeAll(beans, text);
            }, beans -> s.due("read() of " + text + " is refused", beans.read() < -1000, true));
        }
        s.changesNothing("read() of 300", beans -> {
            beans.define(0, 1, 1);
            Check.typeAll(beans, "(a" + "x=1".repeat(99) + "x");
        }, beans -> s.due("read() of 300", beans.read(), -1301));
    }

    private void fromLeftToRight() {
        of("Otherwise it is DONE from left to right:");
        ReplayedBeans beans = Check.withKinds(1, 2);
        s.dueRead(beans, "(ax=1q=(ax=2)x=3p=(ax=4)x=5)", 0, "");
        s.dueObject(beans, 0, "0: 5 0 0, 2 1");
        s.dueObject(beans, 1, "0: 2 0 0, -1 -1");
        s.dueObject(beans, 2, "0: 4 0 0, -1 -1");
        s.dueRead(beans, "(by=1x=2z=3)", -1, "1 3 6 9");
    }

    private void kindsThatAreNotDefined() {
        of(MAKING);
        for (int kind = 0; kind <= 3; kind++) {
            ReplayedBeans beans = new ReplayedBeans();
            beans.define(kind, 0, 1);
            for (int other = 0; other <= 3; other++) {
                boolean fails = other != kind;
                s.dueRead(beans, "(" + "abcd".charAt(other) + ")", fails ? -1 : 0, fails ? "1" : "");
            }
            s.due("count()", beans.count(), 1);
            s.due("kind(0)", beans.kind(0), kind);
        }
    }

    private void the25thObject() {
        of(MAKING);
        ReplayedBeans beans = Check.withKinds(1, 2);
        Check.makeMany(beans, 0, 23);
        s.dueRead(beans, "(ap=(ax=1))", 23, "5 7 3");
        s.due("count()", beans.count(), 24);
        s.dueRead(beans, "(a)", -1, "1");
        s.dueRead(beans, "(bp=(a))", -1, "1 5 3");
        s.due("count() stays", beans.count(), 24);
        s.due("the last one", Check.show(beans, 23), "0: 0 0 0, -1 -1");
        beans.clear();
        s.dueRead(beans, "(ap=(ax=1))", 0, "");
        Check.makeMany(beans, 0, 20);
        s.dueRead(beans, "(bp=(a)q=(a)p=(a))", -1, "1 3 8 15 13");
        s.due("count() with a failed one", beans.count(), 24);
    }

    private void namesFromThenOn() {
        of(NAMING);
        ReplayedBeans beans = Check.withKinds(0, 2);
        s.dueRead(beans, "(ap=@0q=(a#0p=@0))", 0, "3");
        s.dueObject(beans, 0, "0: 0 0 0, -1 1");
        s.dueObject(beans, 1, "0: 0 0 0, 1 -1");
        s.dueRead(beans, "(a#99p=(ap=(aq=@99))q=@99)", 2, "");
        s.dueObject(beans, 2, "0: 0 0 0, 3 2");
        s.dueObject(beans, 4, "0: 0 0 0, -1 2");
        s.dueRead(beans, "(ap=@99q=@0)", 5, "3 8");
        s.dueRead(beans, "(ap=(a#1)q=@1)", 6, "");
        s.dueObject(beans, 6, "0: 0 0 0, 7 7");
    }

    private void namingWhatFailed() {
        of(NAMING);
        ReplayedBeans beans = Check.withKinds(0, 2);
        s.dueRead(beans, "(b#1)", -1, "1 3");
        s.dueRead(beans, "(ap=(b#1)q=@1)", 0, "5 7 3 10");
        s.dueRead(beans, "(ap=(b#1)p=(a#1)q=@1)", 1, "5 7 3");
        s.dueObject(beans, 1, "0: 0 0 0, 2 2");
        s.dueRead(beans, "(a#1p=(b#1)q=@1)", 3, "7 9 5");
        s.dueObject(beans, 3, "0: 0 0 0, -1 3");
        Check.makeMany(beans, 0, 19);
        s.dueRead(beans, "(a#1p=(a#2)q=@2p=@1)", 23, "7 9 5 12");
    }

    private void namingTwice() {
        of(NAMING);
        ReplayedBeans beans = Check.withKinds(0, 2);
        s.dueRead(beans, "(a#0p=(a#0p=@0)q=@0)", 0, "9");
        s.dueObject(beans, 0, "0: 0 0 0, 1 0");
        s.dueObject(beans, 1, "0: 0 0 0, 0 -1");
        s.dueRead(beans, "(a#99p=(a#99)p=(a#99)q=@99)", 2, "10 18");
        s.dueObject(beans, 2, "0: 0 0 0, 4 2");
        s.dueRead(beans, "(a#1p=(a#2)q=@2)", 5, "");
        s.dueRead(beans, "(a#1p=(a#2)q=@2)", 7, "");
        s.dueObject(beans, 7, "0: 0 0 0, 8 8");
    }

    private void statementsInOrder() {
        of("A statement is done when its value is read.");
        ReplayedBeans beans = Check.withKinds(1, 1);
        s.dueRead(beans, "(a#1x=1x=2p=(ap=@1)p=@1)", 0, "");
        s.dueObject(beans, 0, "0: 2 0 0, 0 -1");
        s.dueObject(beans, 1, "0: 0 0 0, 0 -1");
        s.dueRead(beans, "(ap=(a)p=~)", 2, "");
        s.dueObject(beans, 2, "0: 0 0 0, -1 -1");
        s.dueRead(beans, "(ap=~p=(a))", 4, "");
        s.dueObject(beans, 4, "0: 0 0 0, 5 -1");
        s.dueRead(beans, "(a#1p=(a)p=(ap=@2)x=2001x=4)", 6, "14 19");
        s.dueObject(beans, 6, "0: 4 0 0, 8 -1");
    }

    private void valueThatIsAnObject() {
        of("If the value is an object, that is done first; what it is is then the object that was made, or"
            + " failed.");
        ReplayedBeans beans = Check.withKinds(1, 2);
        s.dueRead(beans, "(ap=(a#1x=1001)q=@1)", 0, "9");
        s.dueObject(beans, 0, "0: 0 0 0, 1 1");
        s.dueRead(beans, "(ap=(a#1q=@1)p=(bx=1))", 2, "16 18 14");
        s.dueObject(beans, 2, "0: 0 0 0, 3 -1");
        s.dueObject(beans, 3, "0: 0 0 0, -1 3");
        s.dueRead(beans, "(ap=(bp=(ax=7)))", 4, "5 7 3");
        s.dueObject(beans, 4, "0: 0 0 0, -1 -1");
        s.dueObject(beans, 5, "0: 7 0 0, -1 -1");
    }

    private void valueThatIsNamed() {
        of("@ and an id are the object that is named so at that place of the text, or failed if none is.");
        ReplayedBeans beans = Check.withKinds(0, 2);
        s.dueRead(beans, "(a#0p=@0q=@1)", 0, "9");
        s.dueObject(beans, 0, "0: 0 0 0, 0 -1");
        s.dueRead(beans, "(ap=@5q=(a#5)p=@5)", 1, "3");
        s.dueObject(beans, 1, "0: 0 0 0, 2 2");
        s.dueRead(beans, "(ap=@99q=@98)", 3, "3 8");
        s.dueRead(beans, "(ap=(a#98)p=(a#99)q=@98)", 4, "");
        s.dueObject(beans, 4, "0: 0 0 0, 6 5");
    }

    private void valueThatIsNone() {
        of("~ is NONE.");
        ReplayedBeans beans = Check.withKinds(0, 2, 0, 0);
        s.dueRead(beans, "(a#1p=@1q=@1p=~)", 0, "");
        s.dueObject(beans, 0, "0: 0 0 0, -1 0");
        s.dueRead(beans, "(aq=~p=~)", 1, "");
        s.dueObject(beans, 1, "0: 0 0 0, -1 -1");
        s.dueRead(beans, "(bp=~)", 2, "3");
    }

    private void statementInWhatFailed() {
        of(STATEMENT_FAILS);
        ReplayedBeans beans = Check.withKinds(3, 2);
        s.dueRead(beans, "(cx=1y=0z=0p=~q=(a))", -1, "1 3 6 9 12 15");
        s.due("count()", beans.count(), 1);
        s.dueObject(beans, 0, "0: 0 0 0, -1 -1");
        s.dueRead(beans, "(a#1x=5p=(bx=6p=@1)q=@1)", 1, "10 12 15 8");
        s.dueObject(beans, 1, "0: 5 0 0, -1 1");
    }

    private void statementWhoseValueFailed() {
        of(STATEMENT_FAILS);
        ReplayedBeans beans = Check.withKinds(1, 2);
        s.dueRead(beans, "(a#1p=@1p=@2q=(b))", 0, "9 15 13");
        s.dueObject(beans, 0, "0: 0 0 0, 0 -1");
        Check.makeMany(beans, 0, 22);
        s.dueRead(beans, "(a#1p=@1p=(a)q=@1)", 23, "11 9");
        s.dueObject(beans, 23, "0: 0 0 0, 23 23");
    }

    private void statementOfNoProperty() {
        of(STATEMENT_FAILS);
        ReplayedBeans none = Check.withKinds(0, 0);
        s.dueRead(none, "(ax=0y=0z=0p=~q=~)", 0, "3 6 9 12 15");
        ReplayedBeans some = Check.withKinds(1, 1, 2, 2, 3, 0);
        s.dueRead(some, "(ax=1y=1z=1p=~q=~)", 0, "6 9 15");
        s.dueRead(some, "(bx=1y=1z=1p=~q=~)", 1, "9");
        s.dueRead(some, "(cx=1y=1z=1p=~q=~)", 2, "12 15");
        s.dueRead(some, "(a#1q=@1p=(cp=@1))", 3, "5 13");
        s.dueObject(some, 3, "0: 0 0 0, 4 -1");
        s.dueRead(some, "(cp=(a)q=(b))", 5, "3 8");
        s.due("its values were made", some.count(), 8);
    }

    private void statementOutOfBounds() {
        of(STATEMENT_FAILS);
        ReplayedBeans beans = Check.withKinds(3, 0);
        beans.values(0, 0, 0, -3, 4);
        beans.values(0, 1, -99999, -99999, -99998);
        beans.values(0, 2, 99999, 99998, 99999);
        s.dueRead(beans, "(ax=-3x=-4)", 0, "7");
        s.dueObject(beans, 0, "0: -3 -99999 99999, -1 -1");
        s.dueRead(beans, "(ax=4x=5)", 1, "6");
        s.dueObject(beans, 1, "0: 4 -99999 99999, -1 -1");
        s.dueRead(beans, "(ay=-99998y=-99997z=99998z=99997)", 2, "11 26");
        s.dueObject(beans, 2, "0: 0 -99998 99998, -1 -1");
        s.dueRead(beans, "(ay=-99999z=99999y=99999z=-99999)", 3, "18 25");
        s.dueObject(beans, 3, "0: 0 -99999 99999, -1 -1");
        beans.values(0, 0, 5, 5, 5);
        s.dueRead(beans, "(ax=4x=6x=5)", 4, "3 6");
        s.dueObject(beans, 4, "0: 5 -99999 99999, -1 -1");
    }

    private void propertyGetsTheValue() {
        of("Otherwise the property gets the value.");
        ReplayedBeans beans = Check.withKinds(3, 2, 3, 2);
        s.dueRead(beans, "(b#1x=-1000y=1000z=1p=@1q=(az=-1))", 0, "");
        s.dueObject(beans, 0, "1: -1000 1000 1, 0 1");
        s.dueObject(beans, 1, "0: 0 0 -1, -1 -1");
        s.dueRead(beans, "(ax=5x=0p=(b)p=~)", 2, "");
        s.dueObject(beans, 2, "0: 0 0 0, -1 -1");
        s.dueObject(beans, 0, "1: -1000 1000 1, 0 1");
    }

    private void placesOfFailures() {
        of(PLACES);
        ReplayedBeans beans = Check.withKinds(0, 2);
        s.dueRead(beans, "(b)", -1, "1");
        s.dueRead(beans, "(b#12)", -1, "1 3");
        s.dueRead(beans, "(ax=-12345)", 0, "3");
        s.dueRead(beans, "(a#12q=@34)", 1, "6");
        s.dueRead(beans, "(a#1p=(a#1y=0)q=(c#2z=0))", 2, "9 11 17 19 21 15");
        ReplayedBeans full = Check.withKinds(0, 1);
        String text = "(a" + "p=~".repeat(98) + "x=1)";
        s.dueRead(full, text, 0, "297");
    }

    private void objectAndStatementCountOne() {
        of("(So an object that failed, as the value of a statement, counts 1, and the statement 1.)");
        ReplayedBeans beans = Check.withKinds(0, 1);
        s.dueRead(beans, "(ap=(b))", 0, "5 3");
        s.due("failures()", beans.failures(), 2);
        s.dueRead(beans, "(aq=(b))", 1, "5 3");
        s.dueRead(beans, "(bq=(b))", -1, "1 5 3");
        s.dueRead(beans, "(bp=@1)", -1, "1 3");
        s.dueRead(beans, "(bx=99999)", -1, "1 3");
    }

    private void orderOfFailures() {
        of("They are in the order in which they happen; a statement's comes after those within its value.");
        ReplayedBeans beans = Check.withKinds(1, 1);
        s.dueRead(beans, "(b#1x=1p=(c#2y=1p=(d#3))q=~)", -1, "1 3 5 10 12 14 19 21 17 8 25");
        s.dueRead(beans, "(ay=1p=(az=1p=(ay=1)q=~)q=(bx=1))", 0, "3 10 17 21 27 29 25");
        s.due("failures()", beans.failures(), 7);
        ReplayedBeans many = new ReplayedBeans();
        String text = "(b#00" + "p=(b#0)".repeat(42) + ")";
        s.due("read() of 300 that fail", Check.readAll(many, text), -1);
        s.due("failures() of 300", many.failures(), 128);
        for (int i = 0; i < 42; i++) {
            int place = 6 + 7 * i;
            s.due("the object's", many.failure(2 + 3 * i), place + 2);
            s.due("the naming's", many.failure(3 + 3 * i), place + 4);
            s.due("the statement's", many.failure(4 + 3 * i), place);
        }
        s.due("behind the last", many.failure(128), 0);
    }
}
