/** "Terms", how joints are glued, and how they are then, sentence by sentence. */
public final class EdgeTermsGluingTest {
    private static final int OAK = DovetailRow.OAK;
    private static final int CROSS = DovetailRow.CROSS;
    private static final int FLOAT = DovetailRow.FLOAT;
    private static final int DRY = DovetailRow.DRY;
    private static final int WHOLE = DovetailRow.WHOLE;
    private static final int STUCK = DovetailRow.STUCK;
    private static final int BROKEN = DovetailRow.BROKEN;

    public static void main(String[] args) {
        Sentence.holds("it may need joints with lower numbers.", EdgeTermsGluingTest::lowerNumbers);
        Sentence.holds("Joints are glued together, by rising numbers, each when all that it needs are glued, earlier "
                + "or by that", EdgeTermsGluingTest::risingNumbers);
        Sentence.holds("it takes 3 minutes, and its size divided by 1000", EdgeTermsGluingTest::minutes);
        Sentence.holds("and 1 clamp, and its size divided by 500.", EdgeTermsGluingTest::clamps);
        Sentence.holds("All together may take 30 minutes", EdgeTermsGluingTest::thirtyMinutes);
        Sentence.holds("and as many clamps as there are", EdgeTermsGluingTest::asManyClamps);
        Sentence.holds("6 at first.", EdgeTermsGluingTest::sixAtFirst);
        Sentence.holds("A joint is DRY until it is glued", EdgeTermsGluingTest::dry);
        Sentence.holds("BROKEN from when it breaks until it is repaired", EdgeTermsGluingTest::broken);
        Sentence.holds("STUCK, or otherwise WHOLE.", EdgeTermsGluingTest::otherwiseWhole);
        Sentence.holds("It can break only as a month goes by", EdgeTermsGluingTest::onlyAsAMonthGoesBy);
        Sentence.holds("when it is glued, by how moist its part is then.", EdgeTermsGluingTest::byItsPart);
        Sentence.holds("To need a joint is to need that it was glued, broken or not.", EdgeTermsGluingTest::toNeed);
        Sentence.end();
    }

    private static void lowerNumbers() {
        Check.answers("by 1 lower", 2, Shops::threeJoints, s -> s.need(2, 1));
        Check.answers("the lowest", 1, Shops::threeJoints, s -> s.need(2, 0));
        Check.refused("itself", Check.RANGE, Shops::threeJoints, s -> s.need(2, 2));
        Check.refused("by 1 higher", Check.RANGE, Shops::threeJoints, s -> s.need(1, 2));
        Check.refused("the first, itself", Check.RANGE, Shops::threeJoints, s -> s.need(0, 0));
        DovetailRow shop = Shops.full();
        for (int needed = 0; needed < 29; needed++) {
            Check.due("all lower ones", shop.need(29, needed), (2 << needed) - 1);
        }
        Check.due("at last", shop.ofJoint(29, 2), (1 << 29) - 1);
    }

    /** Ten LONG joints of 10, each of which needs the one before. */
    private static DovetailRow chain() {
        DovetailRow shop = Shops.longJoints(10, 10, 10, 10, 10, 10, 10, 10, 10, 10, 10);
        for (int i = 1; i < 10; i++) {
            shop.need(i, i - 1);
        }
        return shop;
    }

    private static void risingNumbers() {
        Check.answers("all by that", 30, EdgeTermsGluingTest::chain, s -> s.glue(1023));
        for (int left = 0; left < 9; left++) {
            int set = 1023 - (1 << left);
            Check.refused("all but " + left, Check.STATE, EdgeTermsGluingTest::chain, s -> s.glue(set));
        }
        Check.answers("all but the last", 27, EdgeTermsGluingTest::chain, s -> s.glue(511));
        Check.refused("the second alone", Check.STATE, EdgeTermsGluingTest::chain, s -> s.glue(2));
        DovetailRow shop = chain();
        Check.due("the first", shop.glue(1), 3);
        Check.refusedNow("the third without the second", Check.STATE, shop, s -> s.glue(4));
        Check.due("the second, by what was glued earlier", shop.glue(2), 3);
        Check.due("both at once", shop.glue(4 + 8), 6);
        // What needs two is not glued by one of them.
        DovetailRow two = Shops.longJoints(99, 10, 10, 10);
        two.need(2, 0);
        two.need(2, 1);
        two.glue(2);
        Check.refusedNow("one of two", Check.STATE, two, s -> s.glue(4));
        Check.due("one earlier, one by that", two.glue(5), 6);
    }

    private static void alone(int due, int size) {
        Check.answers("minutes of " + size, due, () -> Shops.longJoints(99, size), s -> s.glue(1));
    }

    private static void minutes() {
        alone(3, 10);
        alone(3, 999);
        alone(4, 1000);
        alone(4, 1999);
        alone(5, 2000);
        alone(29, 26999);
        alone(30, 27000);
        Check.answers("two of 999", 6, () -> Shops.longJoints(99, 999, 999), s -> s.glue(3));
        Check.answers("of 999 and 1000", 7, () -> Shops.longJoints(99, 999, 1000), s -> s.glue(3));
    }

    /** So many clamps are enough for these joints, and by 1 less they are not. */
    private static void enough(int clamps, int... sizes) {
        int all = (1 << sizes.length) - 1;
        String outcome = Check.outcome(Shops.longJoints(clamps, sizes), s -> s.glue(all));
        Check.due(clamps + " clamps with " + outcome, outcome.startsWith("throws"), false);
        if (clamps > 1) {
            Check.refused(clamps + " clamps less 1", Check.STATE, () -> Shops.longJoints(clamps - 1, sizes),
                    s -> s.glue(all));
        }
    }

    private static void clamps() {
        enough(1, 10);
        enough(1, 499);
        enough(2, 500);
        enough(2, 999);
        enough(3, 1000);
        enough(54, 26999);
        enough(55, 27000);
        enough(2, 499, 499);
        enough(3, 499, 500);
    }

    private static void thirtyMinutes() {
        Check.answers("30 of one", 30, () -> Shops.longJoints(99, 27999), s -> s.glue(1));
        Check.refused("31 of one", Check.STATE, () -> Shops.longJoints(99, 28000), s -> s.glue(1));
        Check.refused("the longest one", Check.STATE, () -> Shops.longJoints(99, 30000), s -> s.glue(1));
        Check.answers("30 of two", 30, () -> Shops.longJoints(99, 12999, 12999), s -> s.glue(3));
        Check.refused("31 of two", Check.STATE, () -> Shops.longJoints(99, 12000, 13000), s -> s.glue(3));
        Check.answers("30 of ten", 30, Shops::full, s -> s.clamps(99) + s.glue(1023) - 6);
        Check.refused("33 of eleven", Check.STATE, EdgeTermsGluingTest::manyClamps, s -> s.glue(2047));
        Check.refused("90 of thirty", Check.STATE, EdgeTermsGluingTest::manyClamps, s -> s.glue((1 << 30) - 1));
        DovetailRow shop = manyClamps();
        for (int i = 0; i < 3; i++) {
            Check.due("30 once more", shop.glue(1023 << 10 * i), 30);
        }
    }

    private static DovetailRow manyClamps() {
        DovetailRow shop = Shops.full();
        shop.clamps(99);
        return shop;
    }

    private static void asManyClamps() {
        enough(3, 10, 10, 10);
        enough(9, 10, 10, 10, 10, 10, 10, 10, 10, 10);
        enough(18, 999, 999, 999, 999, 999, 999, 999, 999, 999);
        enough(56, 27999);
        // Those of joints that were glued earlier are free again.
        DovetailRow shop = Shops.longJoints(2, 500, 500);
        Check.due("the first", shop.glue(1), 3);
        Check.due("the second", shop.glue(2), 3);
    }

    private static void sixAtFirst() {
        Check.answers("how many", 6, Shops::empty, s -> s.clamps(1));
        Check.answers("6 for one", 5, () -> Shops.longJointsAtFirst(2999), s -> s.glue(1));
        Check.refused("7 for one", Check.STATE, () -> Shops.longJointsAtFirst(3000), s -> s.glue(1));
        Check.answers("6 for two", 8, () -> Shops.longJointsAtFirst(1499, 1499), s -> s.glue(3));
        Check.refused("7 for two", Check.STATE, () -> Shops.longJointsAtFirst(1499, 1500), s -> s.glue(3));
        Check.answers("6 for six", 18, () -> Shops.longJointsAtFirst(10, 10, 10, 10, 10, 10), s -> s.glue(63));
        Check.refused("7 for seven", Check.STATE, () -> Shops.longJointsAtFirst(10, 10, 10, 10, 10, 10, 10),
                s -> s.glue(127));
    }

    // No weather makes a DRY joint anything else, by however much its part moves.
    private static void dry() {
        DovetailRow shop = Shops.threeJoints();
        for (int air = 40; air <= 300; air += 260) {
            Shops.setAir(shop, air);
            Check.due("none breaks", shop.pass(24), 0);
            for (int joint = 0; joint < 3; joint++) {
                Check.due("joint " + joint + " at " + air, shop.ofJoint(joint, 0), DRY);
            }
        }
        shop.glue(1);
        Check.due("glued", shop.ofJoint(0, 0), WHOLE);
        Check.due("another one", shop.ofJoint(1, 0), DRY);
    }

    private static void broken() {
        DovetailRow shop = Shops.oneJoint(OAK, 1000, CROSS, 1000, 0, 148);
        Check.due("it breaks", shop.pass(1), 1);
        Check.due("from then on", shop.ofJoint(0, 0), BROKEN);
        Shops.setAir(shop, 100);
        Check.due("it breaks once", shop.pass(24), 0);
        Check.due("as moist as when it was glued", shop.ofPart(0, 2), 100);
        Check.due("broken still", shop.ofJoint(0, 0), BROKEN);
        shop.repair(0);
        Check.due("until it is repaired", shop.ofJoint(0, 0), WHOLE);
        // A broken FLOAT whose part is wider than the groove is BROKEN, not STUCK.
        DovetailRow wide = Shops.oneJoint(OAK, 1000, FLOAT, 1000, 3, 40);
        wide.pass(1);
        Shops.setAir(wide, 300);
        wide.pass(2);
        Check.due("the part is wider", wide.ofPart(0, 1) > 1000, true);
        Check.due("broken, not stuck", wide.ofJoint(0, 0), BROKEN);
    }

    private static void otherwiseWhole() {
        Check.answers("a LONG", WHOLE, () -> Shops.later(Shops.oneJoint(OAK, 1000, 0, 1000, 0, 300), 3),
                s -> s.ofJoint(0, 0));
        Check.answers("a CROSS whose part is wider than its size", WHOLE,
                () -> Shops.later(Shops.oneJoint(OAK, 1000, CROSS, 100, 0, 164), 1), s -> s.ofJoint(0, 0));
        Check.answers("a FLOAT whose part is wider", STUCK,
                () -> Shops.later(Shops.oneJoint(OAK, 1000, FLOAT, 1000, 5, 164), 1), s -> s.ofJoint(0, 0));
        Check.answers("a FLOAT whose part is as wide", WHOLE,
                () -> Shops.oneJoint(OAK, 1000, FLOAT, 1000, 5, 164), s -> s.ofJoint(0, 0));
    }

    // Neither the weather as it is set breaks a joint, nor to be glued where it can't hold.
    private static void onlyAsAMonthGoesBy() {
        DovetailRow shop = Shops.oneJoint(OAK, 1000, CROSS, 1000, 0, 300);
        Check.due("with the weather set", shop.ofJoint(0, 0), WHOLE);
        shop.through(24);
        shop.breaksIn(0, 24);
        Check.due("looked ahead", shop.ofJoint(0, 0), WHOLE);
        shop.pass(1);
        Check.due("as a month goes by", shop.ofJoint(0, 0), BROKEN);

        DovetailRow narrow = Shops.threeJoints();
        narrow.pass(24);
        Check.due("too narrow", narrow.ofPart(1, 1), 980);
        narrow.glue(2);
        Check.due("glued too narrow", narrow.ofJoint(1, 0), WHOLE);
        Check.due("it would break", narrow.breaksIn(1, 1), 1);
        Check.due("as the next month goes by, though nothing moves", narrow.pass(1), 1);
        Check.due("how it is", narrow.ofJoint(1, 0), BROKEN);
    }

    /** An oak part and a pine one with a CROSS of 1000 between them, the part told first with so many coats. */
    private static DovetailRow coated(int part, int coats) {
        DovetailRow shop = new DovetailRow();
        shop.board(OAK, 0, 0, 1000, 5000, 100);
        shop.board(DovetailRow.PINE, 1, 0, 1000, 5000, 100);
        shop.cut(0, 0, 1000, 1000, false);
        shop.cut(1, 0, 1000, 1000, false);
        shop.joint(CROSS, part, 1 - part, 1000, 0);
        for (int i = 0; i < coats; i++) {
            shop.coat(part);
        }
        shop.glue(1);
        Shops.setAir(shop, 156);
        return shop;
    }

    // At 156, moister by 14 without coats, by 5 with 6: oak moves by 7, or 2, and pine by 2, or 1.
    private static void byItsPart() {
        Check.answers("oak first", 1, () -> coated(0, 0), s -> s.pass(1));
        Check.answers("pine first", 0, () -> coated(1, 0), s -> s.pass(1));
        Check.answers("oak with 6 coats, whatever its board does", 0, () -> coated(0, 6), s -> s.pass(1));
        Check.answers("with a coat since it was glued", 0, () -> coated(0, 0), s -> s.coat(0) + s.pass(1) - 1);
        Check.answers("a coat of the other part", 2, () -> coated(0, 0), s -> s.coat(1) + s.pass(1));
    }

    private static void toNeed() {
        DovetailRow shop = Shops.oneJoint(OAK, 1000, CROSS, 1000, 0, 300);
        shop.joint(DovetailRow.LONG, 0, 1, 10, 0);
        shop.need(1, 0);
        shop.pass(1);
        Check.due("what it needs is broken", shop.ofJoint(0, 0), BROKEN);
        Check.due("glued all the same", shop.glue(2), 3);
        DovetailRow dry = Shops.threeJoints();
        dry.need(1, 0);
        Check.refusedNow("what it needs was never glued", Check.STATE, dry, s -> s.glue(2));
    }
}
