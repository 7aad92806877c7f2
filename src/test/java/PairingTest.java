/**
 * Promise 13 by the document's own words: for all ways in which the two links of three objects can lead
 * and in which their numbers can be 0 or 1, alike is what trying every pairing answers.
 */
final class PairingTest {
    private static final Check CHECK = new Check();
    private static final int OBJECTS = 3;
    private static final int LINKS = 2;
    private static final int NONE = -1;

    private final int[] numbers = new int[OBJECTS];
    private final int[] links = new int[OBJECTS * LINKS];
    private final int[] pairOf = new int[OBJECTS];

    public static void main(String[] args) {
        for (int linkWay = 0; linkWay < 4096; linkWay++) {
            for (int numberWay = 0; numberWay < 8; numberWay++) {
                new PairingTest(linkWay, numberWay).compareAll();
            }
        }
        CHECK.finish();
    }

    private PairingTest(int linkWay, int numberWay) {
        for (int i = 0; i < links.length; i++) {
            links[i] = (linkWay >> 2 * i) % 4 - 1;
        }
        for (int o = 0; o < OBJECTS; o++) {
            numbers[o] = (numberWay >> o) % 2;
        }
    }

    private void compareAll() {
        ReplayedBeans beans = Check.withKinds(1, LINKS);
        Check.makeMany(beans, 0, OBJECTS);
        for (int o = 0; o < OBJECTS; o++) {
            beans.setNumber(o, 0, numbers[o]);
            for (int k = 0; k < LINKS; k++) {
                beans.setLink(o, k, links[o * LINKS + k]);
            }
        }
        for (int a = 0; a < OBJECTS; a++) {
            for (int b = 0; b < OBJECTS; b++) {
                CHECK.due("alike(" + a + ", " + b + ") of " + this, beans.alike(a, b), canBePaired(a, b));
            }
        }
    }

    @Override
    public String toString() {
        return java.util.Arrays.toString(numbers) + " with links " + java.util.Arrays.toString(links);
    }

    /** A bit for each object that is reachable from one. */
    private int reachedFrom(int o) {
        int reached = 1 << o;
        for (int round = 0; round < OBJECTS; round++) {
            for (int i = 0; i < links.length; i++) {
                boolean leads = (reached >> i / LINKS) % 2 == 1 && links[i] != NONE;
                reached |= leads ? 1 << links[i] : 0;
            }
        }
        return reached;
    }

    private boolean canBePaired(int a, int b) {
        int left = reachedFrom(a);
        int right = reachedFrom(b);
        return Integer.bitCount(left) == Integer.bitCount(right) && somePairing(0, left, right, a, b);
    }

    /** Whether those of left from o on can be paired with those of right. */
    private boolean somePairing(int o, int left, int right, int a, int b) {
        if (o == OBJECTS) {
            return pairOf[a] == b && isRight(left);
        }
        if ((left >> o) % 2 == 0) {
            return somePairing(o + 1, left, right, a, b);
        }
        for (int other = 0; other < OBJECTS; other++) {
            pairOf[o] = other;
            if ((right >> other) % 2 == 1 && somePairing(o + 1, left, right - (1 << other), a, b)) {
                return true;
            }
        }
        return false;
    }

    private boolean isRight(int left) {
        for (int o = 0; o < OBJECTS; o++) {
            if ((left >> o) % 2 == 1 && !arePaired(o, pairOf[o])) {
                return false;
            }
        }
        return true;
    }

    private boolean arePaired(int o, int other) {
        for (int k = 0; k < LINKS; k++) {
            int to = links[o * LINKS + k];
            int otherTo = links[other * LINKS + k];
            if (to == NONE ? otherTo != NONE : otherTo != pairOf[to]) {
                return false;
            }
        }
        return numbers[o] == numbers[other];
    }
}
