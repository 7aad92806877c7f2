import java.util.ArrayList;
import java.util.List;

/**
 * Many calls, each with its answer: two objects that answer all of them alike are in one state. With
 * 300 calls before them, or with 24 objects, they still stay under the 512 that the document allows.
 */
final class Afterwards {
    private static final int[] EDGES = {-1001, -1000, 1, 2, 8, 9, 1000, 1001};

    private final ReplayedBeans beans;
    private final List<String> told = new ArrayList<>();

    Afterwards(ReplayedBeans beans) {
        this.beans = beans;
    }

    List<String> answers() {
        askText();
        askFailures();
        askObjects();
        writeAndRead();
        useKinds();
        defineKinds();
        return told;
    }

    private void tell(String call, Object answer) {
        told.add(call + " = " + answer);
    }

    private void askText() {
        int length = beans.length();
        tell("length()", length);
        for (int place = 1; place <= Math.min(length, 12); place++) {
            tell("at(" + place + ")", beans.at(place));
        }
        for (int place = length - 1; place <= length + 1; place++) {
            tell("at(" + place + ")", beans.at(place));
        }
    }

    private void askFailures() {
        int failures = beans.failures();
        tell("failures()", failures);
        for (int k = 0; k <= Math.min(failures, 8); k++) {
            tell("failure(" + k + ")", beans.failure(k));
        }
    }

    private void askObjects() {
        int count = beans.count();
        tell("count()", count);
        for (int o = 0; o < count; o++) {
            tell("kind, numbers and links of " + o, Check.show(beans, o));
        }
        tell("kind(" + count + ")", beans.kind(count));
        tell("reachable(0)", beans.reachable(0));
        tell("alike(0, " + (count - 1) + ")", beans.alike(0, count - 1));
    }

    private void writeAndRead() {
        tell("read()", beans.read());
        tell("count()", beans.count());
        askFailures();
        tell("write(0)", beans.write(0));
        askText();
    }

    private void useKinds() {
        beans.clear();
        for (int kind = 0; kind < 4; kind++) {
            int o = beans.make(kind);
            tell("make(" + kind + ")", o);
            tell("the new one", Check.show(beans, o));
            for (int v : EDGES) {
                tell("setNumber(" + o + ", 0, " + v + ")", beans.setNumber(o, 0, v));
            }
            tell("setNumber(" + o + ", 1, 2)", beans.setNumber(o, 1, 2));
            tell("setNumber(" + o + ", 2, 2)", beans.setNumber(o, 2, 2));
            tell("setLink(" + o + ", 0, 0)", beans.setLink(o, 0, 0));
            tell("setLink(" + o + ", 1, 0)", beans.setLink(o, 1, 0));
            tell("values(" + kind + ", 2, 3, 3, 4)", beans.values(kind, 2, 3, 3, 4));
        }
    }

    private void defineKinds() {
        for (int kind = 0; kind < 4; kind++) {
            tell("define(" + kind + ", 1, 1)", beans.define(kind, 1, 1));
            int o = beans.make(kind);
            tell("make(" + kind + ")", o);
            tell("number(" + o + ", 0)", beans.number(o, 0));
            tell("values(" + kind + ", 0, 7, 6, 8)", beans.values(kind, 0, 7, 6, 8));
        }
    }
}
