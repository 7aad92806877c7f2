/** Promises 15 to 18: type, wipe, length, at. */
final class TextTest {
    private static final Check CHECK = new Check();

    public static void main(String[] args) {
        whichCharacters();
        upTo300();
        wiping();
        CHECK.finish();
    }

    private static void whichCharacters() {
        ReplayedBeans beans = new ReplayedBeans();
        int typed = 0;
        for (int c = 0; c < 130; c++) {
            boolean fits = c >= 32 && c <= 126;
            CHECK.due("type " + c, beans.type((char) c), fits);
            typed += fits ? 1 : 0;
            CHECK.due("length after " + c, beans.length(), typed);
        }
        CHECK.due("type 256 + 40", beans.type((char) 296), false);
        CHECK.due("type 65535", beans.type((char) 65535), false);
        CHECK.due("length", beans.length(), 95);
        CHECK.due("at 1", beans.at(1), 32);
        CHECK.due("at 95", beans.at(95), 126);
        CHECK.due("at 96", beans.at(96), -1);
        CHECK.due("at 0", beans.at(0), -1);
        CHECK.due("at -1", beans.at(-1), -1);
        CHECK.due("at lowest", beans.at(Integer.MIN_VALUE), -1);
        CHECK.due("at highest", beans.at(Integer.MAX_VALUE), -1);
    }

    private static void upTo300() {
        ReplayedBeans beans = new ReplayedBeans();
        for (int i = 1; i <= 300; i++) {
            CHECK.due("type the " + i, beans.type((char) (32 + i % 95)), true);
        }
        CHECK.due("type the 301st", beans.type('a'), false);
        CHECK.due("length when full", beans.length(), 300);
        CHECK.due("at 300", beans.at(300), 32 + 300 % 95);
        CHECK.due("at 301", beans.at(301), -1);
        beans.wipe();
        CHECK.due("type after wipe", beans.type('b'), true);
    }

    private static void wiping() {
        ReplayedBeans beans = Check.withKinds(0, 0);
        beans.wipe();
        CHECK.due("wipe of nothing", beans.length(), 0);
        Check.readAll(beans, "(ax=1)");
        beans.wipe();
        CHECK.due("length after wipe", beans.length(), 0);
        CHECK.due("at after wipe", beans.at(1), -1);
        CHECK.due("count after wipe", beans.count(), 1);
        CHECK.due("failures after wipe", Check.failuresOf(beans), "3");
        Check.typeAll(beans, "xy");
        CHECK.due("text after wipe", Check.textOf(beans), "xy");
    }
}
