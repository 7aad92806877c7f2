import java.util.Random;

/**
 * All promises: many runs of calls on a new object, each beside the same call on the model. The seed of
 * a run is its number, so that every run can be told and repeated.
 */
final class ModelTest {
    private static final Check CHECK = new Check();
    private static final int RUNS = 6000;
    private static final int MOST_CALLS = 512;
    private static final int[] SOME = {-1000, -7, -1, 0, 0, 1, 2, 12, 345, 1000, 1001, -1001, 99999, -99999};

    private final int run;
    private final Random random;
    private final ReplayedBeans beans = new ReplayedBeans();
    private final Model model = new Model();
    // Half of the runs have kinds with all properties and numbers that need many characters.
    private final boolean wide;
    private int calls;
    private int tooDeep;
    private int tooLong;
    private int written;
    private int wrongTexts;
    private int rightTexts;

    private ModelTest(int run) {
        this.run = run;
        this.random = new Random(run);
        this.wide = random.nextBoolean();
    }

    public static void main(String[] args) {
        int[] seen = new int[5];
        for (int run = 0; run < RUNS; run++) {
            ModelTest one = new ModelTest(run);
            one.go();
            int[] its = {one.tooDeep, one.tooLong, one.written, one.wrongTexts, one.rightTexts};
            for (int i = 0; i < seen.length; i++) {
                seen[i] += its[i];
            }
        }
        // A model that never meets a case would let it go wrong unseen.
        for (int i = 0; i < seen.length; i++) {
            CHECK.due("case " + i + " met often", seen[i] >= 100, true);
        }
        CHECK.finish();
    }

    private void go() {
        defineSome();
        int many = random.nextInt(26);
        for (int i = 0; i < many; i++) {
            make(random.nextInt(random.nextInt(20) == 0 ? 5 : 4));
        }
        linkSome();
        // No step takes more than 40 calls, but for those that look at what is left themselves.
        while (left(40)) {
            step();
        }
    }

    private void due(String call, long got, long want) {
        CHECK.due("run " + run + ", call " + calls + ", " + call, got, want);
        calls++;
    }

    private void due(String call, boolean got, boolean want) {
        due(call, got ? 1 : 0, want ? 1 : 0);
    }

    private boolean left(int more) {
        return calls + more <= MOST_CALLS;
    }

    private void defineSome() {
        for (int kind = 0; kind < 4; kind++) {
            if (random.nextInt(6) > 0) {
                int numbers = wide ? 3 : random.nextInt(4);
                int links = wide ? 2 : random.nextInt(3);
                due("define", beans.define(kind, numbers, links), model.define(kind, numbers, links));
            }
            for (int k = 0; k < 3; k++) {
                if (wide || random.nextInt(5) == 0) {
                    values(kind, k, 0, -99999, 99999);
                }
            }
        }
    }

    private void values(int kind, int k, int first, int least, int greatest) {
        due("values " + kind + " " + k + " " + first + " " + least + " " + greatest,
            beans.values(kind, k, first, least, greatest), model.values(kind, k, first, least, greatest));
    }

    private void make(int kind) {
        due("make " + kind, beans.make(kind), model.make(kind));
    }

    /** Chains and trees, at times, for deep and long texts; links at random run into one another soon. */
    private void linkSome() {
        int way = random.nextInt(4);
        for (int o = 0; o < model.count(); o++) {
            for (int k = 0; k < 2; k++) {
                if (way == 0 && k == 0) {
                    setLink(o, k, o + 1);
                } else if (way == 1) {
                    setLink(o, k, 2 * o + 1 + k);
                } else if (way == 2) {
                    setLink(o, k, anyObject());
                }
            }
            if (wide || random.nextBoolean()) {
                for (int k = 0; k < 3; k++) {
                    setNumber(o, k, wide ? -9000 - o : SOME[random.nextInt(SOME.length)]);
                }
            }
        }
    }

    private int anyObject() {
        int way = random.nextInt(40);
        return way == 0 ? random.nextInt(60) - 30 : random.nextInt(Math.max(1, model.count()));
    }

    private void setLink(int o, int k, int to) {
        due("setLink " + o + " " + k + " " + to, beans.setLink(o, k, to), model.setLink(o, k, to));
    }

    private void setNumber(int o, int k, int v) {
        due("setNumber " + o + " " + k + " " + v, beans.setNumber(o, k, v), model.setNumber(o, k, v));
    }

    private void step() {
        switch (random.nextInt(16)) {
            case 0 -> make(random.nextInt(6) - 1);
            case 1 -> setLink(anyObject(), random.nextInt(4) - 1, random.nextInt(4) == 0 ? -1 : anyObject());
            case 2 -> setNumber(anyObject(), random.nextInt(5) - 1, SOME[random.nextInt(SOME.length)]);
            case 3 -> alike(anyObject(), anyObject());
            case 4 -> reachable(anyObject());
            case 5, 6, 7 -> writeAndLook(anyObject());
            case 8 -> readBack(anyObject());
            case 9, 10 -> readSome();
            case 11 -> lookAtObject(anyObject());
            case 12 -> lookAtText(random.nextInt(304) - 1);
            case 13 -> lookAtFailures();
            case 14 -> someValues();
            default -> seldom();
        }
    }

    private void someValues() {
        int a = SOME[random.nextInt(SOME.length)] + random.nextInt(3) - 1;
        int b = SOME[random.nextInt(SOME.length)] + random.nextInt(3) - 1;
        int c = SOME[random.nextInt(SOME.length)];
        if (random.nextInt(4) > 0) {
            values(random.nextInt(6) - 1, random.nextInt(5) - 1, c, Math.min(a, c), Math.max(b, c));
        } else {
            values(random.nextInt(4), random.nextInt(3), c, a, b);
        }
    }

    private void seldom() {
        int way = random.nextInt(8);
        if (way == 0) {
            beans.clear();
            model.clear();
            calls++;
        } else if (way == 1) {
            wipe();
        } else if (way == 2) {
            int kind = random.nextInt(6) - 1;
            int numbers = random.nextInt(6) - 1;
            int links = random.nextInt(5) - 1;
            due("define", beans.define(kind, numbers, links), model.define(kind, numbers, links));
        } else {
            type((char) (30 + random.nextInt(100)));
        }
    }

    private void wipe() {
        beans.wipe();
        model.wipe();
        calls++;
    }

    private void type(char c) {
        due("type " + (int) c, beans.type(c), model.type(c));
    }

    private void alike(int a, int b) {
        due("alike " + a + " " + b, beans.alike(a, b), model.alike(a, b));
    }

    private void reachable(int o) {
        due("reachable " + o, beans.reachable(o), model.reachable(o));
    }

    private void writeAndLook(int r) {
        int length = model.write(r);
        due("write " + r, beans.write(r), length);
        tooDeep += length == -2 ? 1 : 0;
        tooLong += length == -3 ? 1 : 0;
        written += length > 0 ? 1 : 0;
        if (random.nextInt(3) == 0) {
            lookAtWholeText();
        }
    }

    private void readBack(int r) {
        writeAndLook(r);
        int copy = model.read();
        due("read back", beans.read(), copy);
        due("failures", beans.failures(), model.failures());
        alike(r, copy);
        due("count", beans.count(), model.count());
    }

    private void readSome() {
        StringBuilder text = new StringBuilder();
        addObject(text, 1 + random.nextInt(random.nextInt(5) == 0 ? 11 : 3));
        if (random.nextInt(3) == 0) {
            spoil(text);
        }
        if (text.length() > 120) {
            text.setLength(random.nextInt(120));
        }
        if (!left(text.length() + 60)) {
            return;
        }
        wipe();
        for (int i = 0; i < text.length(); i++) {
            type(text.charAt(i));
        }
        int answer = model.read();
        due("read " + text, beans.read(), answer);
        wrongTexts += answer < -1000 ? 1 : 0;
        rightTexts += answer >= -1 ? 1 : 0;
        lookAtFailures();
        due("count", beans.count(), model.count());
        for (int o = Math.max(0, model.count() - 2); o < model.count(); o++) {
            lookAtObject(o);
        }
    }

    private void addObject(StringBuilder text, int levels) {
        text.append('(').append("abcd".charAt(random.nextInt(4)));
        if (random.nextBoolean()) {
            text.append('#').append(anyId());
        }
        int statements = random.nextInt(4);
        for (int i = 0; i < statements; i++) {
            if (random.nextBoolean()) {
                text.append("xyz".charAt(random.nextInt(3))).append('=');
                text.append(random.nextInt(5) == 0 ? "-00" : "").append(Math.abs(SOME[random.nextInt(10)]));
            } else {
                addLinkStatement(text, levels);
            }
        }
        if (levels > 3) {
            addLinkStatement(text, levels);
        }
        text.append(')');
    }

    private void addLinkStatement(StringBuilder text, int levels) {
        text.append("pq".charAt(random.nextInt(2))).append('=');
        int way = random.nextInt(5);
        if (levels > 1 && (way < 3 || levels > 3)) {
            addObject(text, levels - 1);
        } else if (way == 4) {
            text.append('~');
        } else {
            text.append('@').append(anyId());
        }
    }

    private String anyId() {
        int id = random.nextInt(4);
        int way = random.nextInt(8);
        return way == 0 ? "0" + id : way == 1 ? "9" + id : "" + id;
    }

    private void spoil(StringBuilder text) {
        String letters = "()abcd#@~=-xyzpq0123456789 !e";
        char c = letters.charAt(random.nextInt(letters.length()));
        int i = random.nextInt(text.length());
        switch (random.nextInt(4)) {
            case 0 -> text.setCharAt(i, c);
            case 1 -> text.insert(i, c);
            case 2 -> text.deleteCharAt(i);
            default -> text.setLength(i);
        }
    }

    private void lookAtObject(int o) {
        due("kind " + o, beans.kind(o), model.kind(o));
        for (int k = -1; k < 4; k++) {
            due("number " + o + " " + k, beans.number(o, k), model.number(o, k));
            due("link " + o + " " + k, beans.link(o, k), model.link(o, k));
        }
    }

    private void lookAtText(int place) {
        due("length", beans.length(), model.length());
        due("at " + place, beans.at(place), model.at(place));
    }

    private void lookAtWholeText() {
        due("length", beans.length(), model.length());
        if (left(model.length() + 40)) {
            for (int place = 1; place <= model.length(); place++) {
                due("at " + place, beans.at(place), model.at(place));
            }
        }
    }

    private void lookAtFailures() {
        due("failures", beans.failures(), model.failures());
        for (int k = -1; k <= Math.min(20, model.failures()); k++) {
            due("failure " + k, beans.failure(k), model.failure(k));
        }
    }
}
