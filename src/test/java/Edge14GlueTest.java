/** Promise 14, row by row: glue. */
public final class Edge14GlueTest {
    public static void main(String[] args) {
        Sentence.holds("Glues joints together.", Edge14GlueTest::glues);
        Sentence.holds("`set`: the joints, not empty", Edge14GlueTest::notEmpty);
        Sentence.holds("Returns the minutes that it took.", Edge14GlueTest::minutes);
        Sentence.holds("Throws `IllegalArgumentException` if set is empty", Edge14GlueTest::empty);
        Sentence.holds("or below 0", Edge14GlueTest::below0);
        Sentence.holds("or has a joint that there is not", Edge14GlueTest::thatThereIsNot);
        Sentence.holds("Throws `IllegalStateException` if one is glued", Edge14GlueTest::oneIsGlued);
        Sentence.holds("or one that it needs is not glued by then", Edge14GlueTest::notGluedByThen);
        Sentence.holds("or it would take too long", Edge14GlueTest::tooLong);
        Sentence.holds("or too many clamps", Edge14GlueTest::tooManyClamps);
        Sentence.end();
    }

    private static void glues() {
        for (int set = 1; set < 8; set++) {
            DovetailRow shop = Shops.threeJoints();
            shop.clamps(99);
            shop.glue(set);
            for (int joint = 0; joint < 3; joint++) {
                boolean isIn = (set >> joint & 1) == 1;
                Check.due("joint " + joint + " of " + set, shop.ofJoint(joint, 0),
                        isIn ? DovetailRow.WHOLE : DovetailRow.DRY);
            }
        }
    }

    private static DovetailRow full() {
        DovetailRow shop = Shops.full();
        shop.clamps(99);
        return shop;
    }

    private static void notEmpty() {
        Edge.range(Check.RANGE, 1, 7, Edge14GlueTest::three, (s, i) -> s.glue(i));
        Edge.ends(1, 1 << 29, Edge14GlueTest::full, (s, i) -> s.glue(i));
        // All 30 are in the range, but would take too long.
        Check.refused("all 30", Check.STATE, Edge14GlueTest::full, s -> s.glue((1 << 30) - 1));
        Edge.beyond(Check.RANGE, 1, (1 << 30) - 1, Edge14GlueTest::full, (s, i) -> s.glue(i));
    }

    private static DovetailRow three() {
        return Shops.longJoints(99, 10, 10, 10);
    }

    private static void minutes() {
        Check.answers("of 10", 3, Edge14GlueTest::three, s -> s.glue(1));
        Check.answers("of all three", 9, Edge14GlueTest::three, s -> s.glue(7));
        Check.answers("of 1000 and 23999", 4 + 26, () -> Shops.longJoints(99, 1000, 23999), s -> s.glue(3));
        Check.answers("only what is in the set", 4, () -> Shops.longJoints(99, 999, 1000, 5000), s -> s.glue(2));
    }

    private static void empty() {
        Check.refused("of no joints", Check.RANGE, Shops::empty, s -> s.glue(0));
        Check.refused("of three", Check.RANGE, Edge14GlueTest::three, s -> s.glue(0));
        Check.refused("of 30", Check.RANGE, Edge14GlueTest::full, s -> s.glue(0));
    }

    private static void below0() {
        for (int set : new int[] {-1, -2, -8, Integer.MIN_VALUE, Integer.MIN_VALUE + 1}) {
            Check.refused("of no joints", Check.RANGE, Shops::empty, s -> s.glue(set));
            Check.refused("of three", Check.RANGE, Edge14GlueTest::three, s -> s.glue(set));
            Check.refused("of 30", Check.RANGE, Edge14GlueTest::full, s -> s.glue(set));
        }
    }

    private static void thatThereIsNot() {
        Check.refused("the first of none", Check.RANGE, Shops::threeParts, s -> s.glue(1));
        for (int joint = 3; joint <= 30; joint++) {
            int none = 1 << joint;
            Check.refused("joint " + joint + " of 3", Check.RANGE, Edge14GlueTest::three, s -> s.glue(none));
            Check.refused("joint " + joint + " of 3, and all", Check.RANGE, Edge14GlueTest::three,
                    s -> s.glue(none + 7));
        }
        Check.refused("joint 30 of 30", Check.RANGE, Edge14GlueTest::full, s -> s.glue(1 << 30));
        Check.refused("joint 30 of 30, and the first", Check.RANGE, Edge14GlueTest::full, s -> s.glue((1 << 30) + 1));
    }

    // In a busy shop 0 is BROKEN, 1 WHOLE, 2 a LONG, 3 STUCK, 5 and 6 DRY.
    private static void oneIsGlued() {
        for (int joint = 0; joint <= 4; joint++) {
            int set = 1 << joint;
            Check.refused("joint " + joint, Check.STATE, Shops::busy, s -> s.glue(set));
            Check.refused("joint " + joint + " and a DRY one", Check.STATE, Shops::busy, s -> s.glue(set + 64));
        }
        Check.answers("the DRY ones", 6, Shops::busy, s -> s.glue(32 + 64));
        Check.refused("one that was repaired", Check.STATE, Edge14GlueTest::repaired, s -> s.glue(1));
    }

    private static DovetailRow repaired() {
        DovetailRow shop = Shops.busy();
        shop.repair(0);
        return shop;
    }

    private static DovetailRow needing() {
        DovetailRow shop = three();
        shop.need(2, 1);
        shop.need(1, 0);
        return shop;
    }

    private static void notGluedByThen() {
        for (int set : new int[] {2, 4, 5, 6}) {
            Check.refused("set " + set, Check.STATE, Edge14GlueTest::needing, s -> s.glue(set));
        }
        Check.answers("the first", 3, Edge14GlueTest::needing, s -> s.glue(1));
        Check.answers("the first two", 6, Edge14GlueTest::needing, s -> s.glue(3));
        Check.answers("all", 9, Edge14GlueTest::needing, s -> s.glue(7));
        DovetailRow shop = needing();
        shop.glue(1);
        Check.refusedNow("the last, without the second", Check.STATE, shop, s -> s.glue(4));
        Check.due("both, by the first, glued earlier", shop.glue(6), 6);
        DovetailRow last = Shops.full();
        last.need(29, 28);
        Check.refusedNow("29 without 28", Check.STATE, last, s -> s.glue(1 << 29));
        Check.due("29 with 28", last.glue(3 << 28), 6);
    }

    private static void tooLong() {
        Check.answers("30", 30, () -> Shops.longJoints(99, 10, 24000), s -> s.glue(3));
        Check.refused("31", Check.STATE, () -> Shops.longJoints(99, 10, 25000), s -> s.glue(3));
        Check.refused("33", Check.STATE, () -> Shops.longJoints(99, 30000), s -> s.glue(1));
        Check.answers("ten of 3", 30, Edge14GlueTest::full, s -> s.glue(0x3ff));
        Check.refused("eleven of 3", Check.STATE, Edge14GlueTest::full, s -> s.glue(0x7ff));
    }

    private static void tooManyClamps() {
        Check.answers("1 of 1", 3, () -> Shops.longJoints(1, 499), s -> s.glue(1));
        Check.refused("2 of 1", Check.STATE, () -> Shops.longJoints(1, 500), s -> s.glue(1));
        Check.refused("two of 1", Check.STATE, () -> Shops.longJoints(1, 10, 10), s -> s.glue(3));
        Check.answers("the most that 30 minutes need", 30, () -> Shops.longJoints(56, 27999), s -> s.glue(1));
        Check.refused("by 1 less", Check.STATE, () -> Shops.longJoints(55, 27999), s -> s.glue(1));
        Check.answers("as many as there are", 12, () -> Shops.longJoints(7, 500, 500, 499, 999), s -> s.glue(15));
        Check.refused("by 1 more", Check.STATE, () -> Shops.longJoints(7, 500, 500, 500, 999), s -> s.glue(15));
    }
}
