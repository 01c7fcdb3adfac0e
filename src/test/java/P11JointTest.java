/** Promise 11: joint. */
public final class P11JointTest {
    private static final int LONG = DovetailRow.LONG;
    private static final int CROSS = DovetailRow.CROSS;
    private static final int FLOAT = DovetailRow.FLOAT;

    public static void main(String[] args) {
        DovetailRow shop = Shops.threeParts();
        Check.due("the first", shop.joint(CROSS, 1, 2, 900, 0), 0);
        Check.due("the second", shop.joint(LONG, 2, 1, 10, 0), 1);
        Check.due("the same again", shop.joint(LONG, 2, 1, 10, 0), 2);
        Check.due("how it is", shop.ofJoint(0, 0), DovetailRow.DRY);
        Check.due("its size", shop.ofJoint(0, 1), 900);
        Check.due("what it needs", shop.ofJoint(0, 2), 0);
        Check.due("its part", shop.ofJoint(0, 3), 1);
        Check.due("its other part", shop.ofJoint(0, 4), 2);
        Check.due("the chisel", shop.sharpen(1), 94);
        Check.due("the saw", shop.sharpen(0), 94);

        ranges();
        sizes();
        sizesNow();
        chisels();
        Check.refused("a 31st", Check.STATE, Shops::full, s -> s.joint(LONG, 0, 1, 500, 0));
        Check.refused("a 31st, and a range", Check.RANGE, Shops::full, s -> s.joint(LONG, 0, 1, 500, 1));
        Check.refused("a 31st of no part", Check.NO_SUCH, Shops::full, s -> s.joint(LONG, 0, 40, 500, 0));
        Check.end();
    }

    private static void range(String what, int kind, int part, int other, int size, int tongue) {
        Check.refused(what, Check.RANGE, Shops::threeParts, s -> s.joint(kind, part, other, size, tongue));
    }

    private static void noSuch(String what, int kind, int part, int other, int size, int tongue) {
        Check.refused(what, Check.NO_SUCH, Shops::threeParts, s -> s.joint(kind, part, other, size, tongue));
    }

    private static void ranges() {
        noSuch("part -1", LONG, -1, 0, 100, 0);
        noSuch("part 3", LONG, 3, 0, 100, 0);
        noSuch("other -1", LONG, 0, -1, 100, 0);
        noSuch("other 3", LONG, 0, 3, 100, 0);
        noSuch("the same that there is not", LONG, 3, 3, 100, 0);
        noSuch("part 3, and a range", 3, 3, 0, 9, 1);
        range("the same", LONG, 1, 1, 100, 0);
        range("kind -1", -1, 0, 1, 100, 0);
        range("kind 3", 3, 0, 1, 100, 0);
        range("kind 3 with a tongue", 3, 0, 1, 1000, 5);
        range("size 9", LONG, 0, 1, 9, 0);
        range("size 30001", LONG, 0, 1, 30001, 0);
        range("LONG with a tongue", LONG, 0, 1, 100, 1);
        range("CROSS with a tongue", CROSS, 0, 1, 100, 1);
        range("CROSS with less than none", CROSS, 0, 1, 100, -1);
        range("FLOAT without", FLOAT, 0, 1, 1000, 0);
        range("FLOAT with less than none", FLOAT, 0, 1, 1000, -1);
        range("FLOAT with 201", FLOAT, 0, 1, 1000, 201);
        range("far", Integer.MAX_VALUE, 0, 1, Integer.MAX_VALUE, Integer.MAX_VALUE);
        range("a range, and does not fit", LONG, 0, 0, 1001, 0);
    }

    private static void fits(String what, int kind, int size, int tongue) {
        Check.due(what, Shops.threeParts().joint(kind, 0, 1, size, tongue), 0);
    }

    private static void fitsNot(String what, int kind, int size, int tongue) {
        Check.refused(what, Check.STATE, Shops::threeParts, s -> s.joint(kind, 0, 1, size, tongue));
    }

    // The parts are 1000 by 1000.
    private static void sizes() {
        fits("the least", LONG, 10, 0);
        fits("LONG as long", LONG, 1000, 0);
        fitsNot("LONG longer", LONG, 1001, 0);
        fitsNot("the greatest", LONG, 30000, 0);
        fits("CROSS as wide", CROSS, 1000, 0);
        fitsNot("CROSS wider", CROSS, 1001, 0);
        fits("CROSS of little", CROSS, 10, 0);
        fits("FLOAT as wide", FLOAT, 1000, 5);
        fitsNot("FLOAT less wide than the part", FLOAT, 999, 5);
        fits("FLOAT, by 2 tongues wider", FLOAT, 1010, 5);
        fitsNot("FLOAT, by more than 2 tongues", FLOAT, 1011, 5);
        fits("FLOAT with 200", FLOAT, 1400, 200);
        fitsNot("FLOAT beyond 200", FLOAT, 1401, 200);
        fits("FLOAT with 1", FLOAT, 1002, 1);
        fitsNot("FLOAT beyond 1", FLOAT, 1003, 1);

        DovetailRow longest = new DovetailRow();
        longest.board(DovetailRow.PINE, 0, 0, 100, 30000, 100);
        longest.board(DovetailRow.PINE, 0, 1, 100, 30000, 100);
        longest.cut(0, 0, 30000, 100, false);
        longest.cut(1, 0, 29999, 100, false);
        Check.due("the greatest that there is", longest.joint(LONG, 0, 1, 30000, 0), 0);
        Check.due("by 1 too short", Check.outcome(longest, s -> s.joint(LONG, 1, 0, 30000, 0)),
                "throws java.lang.IllegalStateException");

        DovetailRow unlike = new DovetailRow();
        unlike.board(DovetailRow.PINE, 0, 0, 1000, 9000, 100);
        unlike.cut(0, 0, 300, 700, false);
        unlike.cut(0, 1000, 800, 200, false);
        Check.due("LONG goes by the first part's length", unlike.joint(LONG, 1, 0, 800, 0), 0);
        Check.due("CROSS goes by the first part's width", unlike.joint(CROSS, 0, 1, 700, 0), 1);
        Check.due("FLOAT goes by the first part's width", unlike.joint(FLOAT, 1, 0, 200, 1), 2);
        Check.due("LONG of the shorter one", Check.outcome(unlike, s -> s.joint(LONG, 0, 1, 301, 0)),
                "throws java.lang.IllegalStateException");
        Check.due("CROSS of the narrower one", Check.outcome(unlike, s -> s.joint(CROSS, 1, 0, 201, 0)),
                "throws java.lang.IllegalStateException");
    }

    private static DovetailRow dried() {
        DovetailRow shop = Shops.threeParts();
        shop.pass(24);
        return shop;
    }

    // 980 wide by now
    private static void sizesNow() {
        Check.due("CROSS as wide as now", dried().joint(CROSS, 0, 1, 980, 0), 0);
        Check.refused("CROSS wider than now", Check.STATE, P11JointTest::dried, s -> s.joint(CROSS, 0, 1, 981, 0));
        Check.due("LONG is as long as ever", dried().joint(LONG, 0, 1, 1000, 0), 0);
        Check.due("FLOAT as wide as now", dried().joint(FLOAT, 0, 1, 980, 1), 0);
        Check.refused("FLOAT less than now", Check.STATE, P11JointTest::dried, s -> s.joint(FLOAT, 0, 1, 979, 1));
        Check.due("FLOAT by 2 tongues", dried().joint(FLOAT, 0, 1, 982, 1), 0);
        Check.refused("FLOAT by more", Check.STATE, P11JointTest::dried, s -> s.joint(FLOAT, 0, 1, 983, 1));
    }

    private static DovetailRow worn(int species, int joints) {
        DovetailRow shop = new DovetailRow();
        shop.board(species, 0, 0, 500, 1000, 100);
        shop.board(species == 0 ? 3 : 0, 1, 0, 500, 1000, 100);
        shop.cut(0, 0, 500, 500, false);
        shop.cut(1, 0, 500, 500, false);
        for (int i = 0; i < joints; i++) {
            shop.joint(LONG, 0, 1, 100, 0);
        }
        return shop;
    }

    // The first part that is told wears the chisel, whatever the other one is.
    private static void chisels() {
        int[] wears = {2, 4, 7, 9};
        int[] most = {30, 25, 14, 11};
        for (int i = 0; i <= 3; i++) {
            int species = i;
            int joints = most[i];
            Check.due("what wears it", worn(species, 1).sharpen(1), 100 - wears[i]);
            Check.due("the chisel then", worn(species, joints).sharpen(1), 100 - joints * wears[i]);
            if (i > 0) {
                Check.refused("a blunt chisel", Check.STATE, () -> worn(species, joints),
                        s -> s.joint(LONG, 0, 1, 100, 0));
            }
        }
        Check.due("blunt for oak, not for pine", worn(2, 14).joint(LONG, 1, 0, 100, 0), 14);
        DovetailRow shop = worn(3, 11);
        shop.sharpen(1);
        Check.due("sharpened", shop.joint(LONG, 0, 1, 100, 0), 11);
    }
}
