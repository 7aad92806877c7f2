/** Counts the answers that are not the ones that are due, and has the short ways of the tests. */
final class Check {
    private int wrong;
    private int asked;

    void due(String call, long got, long want) {
        due(call, Long.toString(got), Long.toString(want));
    }

    void due(String call, boolean got, boolean want) {
        due(call, Boolean.toString(got), Boolean.toString(want));
    }

    void due(String call, String got, String want) {
        asked++;
        if (!got.equals(want)) {
            wrong++;
            System.out.println(call + " answered " + got + ", due is " + want);
        }
    }

    void finish() {
        System.out.println(wrong == 0 ? asked + " answers are as due" : wrong + " answers are not as due");
        if (wrong > 0) {
            System.exit(1);
        }
    }

    /** An object whose kinds a, b, .. have the numbers and links that stand in pairs. */
    static ReplayedBeans withKinds(int... numbersAndLinks) {
        ReplayedBeans beans = new ReplayedBeans();
        for (int kind = 0; kind < numbersAndLinks.length / 2; kind++) {
            beans.define(kind, numbersAndLinks[2 * kind], numbersAndLinks[2 * kind + 1]);
        }
        return beans;
    }

    static void makeMany(ReplayedBeans beans, int kind, int many) {
        for (int i = 0; i < many; i++) {
            beans.make(kind);
        }
    }

    /** Links k of first, first + 1, .. lead each to the next one, up to last. */
    static void chain(ReplayedBeans beans, int k, int first, int last) {
        for (int o = first; o < last; o++) {
            beans.setLink(o, k, o + 1);
        }
    }

    static void typeAll(ReplayedBeans beans, String text) {
        for (int i = 0; i < text.length(); i++) {
            beans.type(text.charAt(i));
        }
    }

    static int readAll(ReplayedBeans beans, String text) {
        beans.wipe();
        typeAll(beans, text);
        return beans.read();
    }

    static String textOf(ReplayedBeans beans) {
        StringBuilder text = new StringBuilder();
        int length = beans.length();
        for (int place = 1; place <= length; place++) {
            text.append((char) beans.at(place));
        }
        return text.toString();
    }

    static String failuresOf(ReplayedBeans beans) {
        StringBuilder places = new StringBuilder();
        int failures = beans.failures();
        for (int k = 0; k < failures; k++) {
            places.append(k == 0 ? "" : " ").append(beans.failure(k));
        }
        return places.toString();
    }

    /** Kind, numbers and links of object o. */
    static String show(ReplayedBeans beans, int o) {
        return beans.kind(o) + ": " + beans.number(o, 0) + " " + beans.number(o, 1) + " "
            + beans.number(o, 2) + ", " + beans.link(o, 0) + " " + beans.link(o, 1);
    }
}
