/** "Terms", LONG, CROSS and FLOAT, sentence by sentence. */
public final class EdgeTermsKindsTest {
    private static final int OAK = DovetailRow.OAK;
    private static final int LONG = DovetailRow.LONG;
    private static final int CROSS = DovetailRow.CROSS;
    private static final int FLOAT = DovetailRow.FLOAT;
    private static final int WHOLE = DovetailRow.WHOLE;
    private static final int STUCK = DovetailRow.STUCK;
    private static final int BROKEN = DovetailRow.BROKEN;

    public static void main(String[] args) {
        Sentence.holds("Joints are numbered from 0, at most 30", EdgeTermsKindsTest::joints);
        Sentence.holds("each of a kind, of a part with another one, with a size", EdgeTermsKindsTest::anotherOne);
        Sentence.holds("LONG is along the grain, at most as long as the part is", EdgeTermsKindsTest::longFits);
        Sentence.holds("and never breaks.", EdgeTermsKindsTest::longHolds);
        Sentence.holds("CROSS is across the grain, at most as long as the part is wide now",
                EdgeTermsKindsTest::crossFits);
        Sentence.holds("it breaks when its size would have moved by more than 5 either way",
                EdgeTermsKindsTest::crossBreaks);
        Sentence.holds("since it was glued.", EdgeTermsKindsTest::sinceItWasGlued);
        floats();
        Sentence.end();
    }

    private static void floats() {
        Sentence.holds("the part has to be at most that wide as it is made", EdgeTermsKindsTest::floatAtMost);
        Sentence.holds("and at least as wide as that less 2 tongues.", EdgeTermsKindsTest::floatAtLeast);
        Sentence.holds("It is STUCK as long as the part is wider than the size", EdgeTermsKindsTest::floatSticks);
        Sentence.holds("and breaks when it is less wide than the size less 2 tongues.",
                EdgeTermsKindsTest::floatBreaks);
    }

    private static void joints() {
        DovetailRow shop = Shops.threeParts();
        Check.refusedNow("none at first", Check.NO_SUCH, shop, s -> s.ofJoint(0, 0));
        for (int i = 0; i < 30; i++) {
            Check.due("its number", shop.joint(LONG, 0, 1, 10 + i, 0), i);
        }
        for (int i = 0; i < 30; i++) {
            Check.due("the joint of that number", shop.ofJoint(i, 1), 10 + i);
        }
        shop.sharpen(1);
        Check.refusedNow("a 31st", Check.STATE, shop, s -> s.joint(LONG, 0, 1, 10, 0));
        Check.refusedNow("none has the number 30", Check.NO_SUCH, shop, s -> s.ofJoint(30, 0));
    }

    private static void anotherOne() {
        for (int part = 0; part < 3; part++) {
            int same = part;
            Check.refused("with itself", Check.RANGE, Shops::threeParts, s -> s.joint(LONG, same, same, 10, 0));
        }
        Check.answers("the first with the last", 0, Shops::threeParts, s -> s.joint(LONG, 0, 2, 10, 0));
        Check.answers("the last with the first", 0, Shops::threeParts, s -> s.joint(LONG, 2, 0, 10, 0));
    }

    /** Oak part 0: 700 long and 300 wide; pine part 1: 300 long and 700 wide; both at 100. */
    private static DovetailRow twoParts() {
        DovetailRow shop = new DovetailRow();
        shop.board(OAK, 0, 0, 1000, 1000, 100);
        shop.board(DovetailRow.PINE, 1, 0, 1000, 1000, 100);
        shop.cut(0, 0, 700, 300, false);
        shop.cut(1, 0, 300, 700, false);
        return shop;
    }

    private static void longFits() {
        Check.answers("as long as the part", 0, EdgeTermsKindsTest::twoParts, s -> s.joint(LONG, 0, 1, 700, 0));
        Check.refused("by 1 longer", Check.STATE, EdgeTermsKindsTest::twoParts, s -> s.joint(LONG, 0, 1, 701, 0));
        Check.answers("as long as the other", 0, EdgeTermsKindsTest::twoParts, s -> s.joint(LONG, 1, 0, 300, 0));
        Check.refused("longer than the other", Check.STATE, EdgeTermsKindsTest::twoParts,
                s -> s.joint(LONG, 1, 0, 301, 0));
        Check.answers("as long as there is", 0, () -> Shops.longJoints(6), s -> s.joint(LONG, 0, 1, 30000, 0));
    }

    // As much weather as there can be, either way, upon oak of 6000.
    private static void longHolds() {
        DovetailRow shop = Shops.oneJoint(OAK, 6000, LONG, 1000, 0, 300);
        Check.due("none in the damp", shop.pass(24), 0);
        Shops.setAir(shop, 40);
        Check.due("it would not break", shop.through(24), 0);
        Check.due("in no month", shop.breaksIn(0, 24), DovetailRow.NONE);
        Check.due("none in the dry", shop.pass(24), 0);
        Check.due("how it is", shop.ofJoint(0, 0), WHOLE);
    }

    /** The two parts, after a year in this air. */
    private static DovetailRow afterAYear(int air) {
        DovetailRow shop = twoParts();
        Shops.setAir(shop, air);
        shop.pass(24);
        shop.pass(24);
        return shop;
    }

    // Oak of 300 at 300: 300 * 5 * 200 / 10000 = 30; at 40: 300 * 5 * 60 / 10000 = 9
    private static void crossFits() {
        Check.answers("as it is cut", 0, EdgeTermsKindsTest::twoParts, s -> s.joint(CROSS, 0, 1, 300, 0));
        Check.refused("by 1 longer", Check.STATE, EdgeTermsKindsTest::twoParts, s -> s.joint(CROSS, 0, 1, 301, 0));
        Check.answers("as wide as now", 0, () -> afterAYear(300), s -> s.joint(CROSS, 0, 1, 330, 0));
        Check.refused("wider than now", Check.STATE, () -> afterAYear(300), s -> s.joint(CROSS, 0, 1, 331, 0));
        Check.answers("as wide as now, dry", 0, () -> afterAYear(40), s -> s.joint(CROSS, 0, 1, 291, 0));
        Check.refused("wider than now, dry", Check.STATE, () -> afterAYear(40), s -> s.joint(CROSS, 0, 1, 292, 0));
        Check.answers("as wide as the other", 0, EdgeTermsKindsTest::twoParts, s -> s.joint(CROSS, 1, 0, 700, 0));
        Check.refused("wider than the other", Check.STATE, EdgeTermsKindsTest::twoParts,
                s -> s.joint(CROSS, 1, 0, 701, 0));
    }

    private static void crossAfterAMonth(String what, int due, int size, int air) {
        DovetailRow shop = Shops.oneJoint(OAK, 1000, CROSS, size, 0, air);
        Check.due(what + ": what would break", shop.through(1), due);
        Check.due(what + ": what breaks", shop.pass(1), due);
        Check.due(what + ": how it is", shop.ofJoint(0, 0), due == 1 ? BROKEN : WHOLE);
    }

    // Moister by 16 at 164: a size moves by 5 from 625 on, by 6 from 750 on. Drier by 15 at 40: from 667, from 800.
    private static void crossBreaks() {
        crossAfterAMonth("by 5", 0, 625, 164);
        crossAfterAMonth("by 5.992", 0, 749, 164);
        crossAfterAMonth("by 6", 1, 750, 164);
        crossAfterAMonth("by -5", 0, 667, 40);
        crossAfterAMonth("by -5.9925", 0, 799, 40);
        crossAfterAMonth("by -6", 1, 800, 40);
        crossAfterAMonth("by as much as can be, of a small size", 0, 10, 300);
        crossAfterAMonth("not at all", 0, 1000, 100);
    }

    // The part is cut at 100; the joint is made at 120, and glued at 135.
    private static void sinceItWasGlued() {
        DovetailRow shop = twoParts();
        Shops.setAir(shop, 180);
        shop.pass(1);
        shop.joint(CROSS, 0, 1, 300, 0);
        shop.pass(1);
        shop.glue(1);
        Shops.setAir(shop, 300);
        // 135, then 176: 300 * 5 * 41 / 10000 = 6
        Check.due("it would break", shop.breaksIn(0, 24), 1);
        Shops.setAir(shop, 294);
        // 135, then 174: 300 * 5 * 39 / 10000 = 5, though 74 since it was cut, and 54 since it was made
        Check.due("it would hold a month", shop.breaksIn(0, 24), 2);
        Check.due("so it does", shop.pass(1), 0);
        Check.due("and then breaks", shop.pass(1), 1);
        repairedSince();
    }

    // Glued at 100, broken at 150, repaired there: back at 112 it moves by 1000 * 5 * 38 / 10000 = 19.
    private static void repairedSince() {
        DovetailRow shop = Shops.oneJoint(OAK, 1000, CROSS, 1000, 0, 300);
        Check.due("it breaks", shop.pass(1), 1);
        shop.repair(0);
        Shops.setAir(shop, 150);
        Check.due("since it was repaired, no more", shop.breaksIn(0, 24), DovetailRow.NONE);
        Shops.setAir(shop, 102);
        // 150 less 12 is 138: moved by -6
        Check.due("it breaks as it was when it was first glued", shop.breaksIn(0, 24), 1);
    }

    private static void floatFits(String what, int size, int tongue) {
        Check.answers(what, 0, EdgeTermsKindsTest::twoParts, s -> s.joint(FLOAT, 0, 1, size, tongue));
    }

    private static void floatFitsNot(String what, int size, int tongue) {
        Check.refused(what, Check.STATE, EdgeTermsKindsTest::twoParts, s -> s.joint(FLOAT, 0, 1, size, tongue));
    }

    private static void floatAtMost() {
        floatFits("the part as wide as the size", 300, 1);
        floatFitsNot("the part by 1 wider", 299, 1);
        floatFitsNot("the part wider, whatever the tongue", 299, 200);
        Check.answers("as wide as it is now", 0, () -> afterAYear(300), s -> s.joint(FLOAT, 0, 1, 330, 1));
        Check.refused("as wide as it was cut", Check.STATE, () -> afterAYear(300),
                s -> s.joint(FLOAT, 0, 1, 329, 15));
        Check.answers("as wide as it is now, dry", 0, () -> afterAYear(40), s -> s.joint(FLOAT, 0, 1, 291, 1));
        Check.refused("wider, dry", Check.STATE, () -> afterAYear(40), s -> s.joint(FLOAT, 0, 1, 290, 1));
    }

    private static void floatAtLeast() {
        floatFits("as wide as the size less 2", 302, 1);
        floatFitsNot("by 1 less wide than that", 303, 1);
        floatFits("as wide as the size less 400", 700, 200);
        floatFitsNot("by 1 less wide than the size less 400", 701, 200);
        Check.answers("as wide as it is now", 0, () -> afterAYear(40), s -> s.joint(FLOAT, 0, 1, 293, 1));
        Check.refused("less wide now", Check.STATE, () -> afterAYear(40), s -> s.joint(FLOAT, 0, 1, 294, 1));
        Check.answers("as wide as it is now, damp", 0, () -> afterAYear(300), s -> s.joint(FLOAT, 0, 1, 332, 1));
        Check.refused("less wide, damp", Check.STATE, () -> afterAYear(300), s -> s.joint(FLOAT, 0, 1, 333, 1));
        tongueBeyondTheSize();
    }

    // 2 tongues of 200 are more than a size of 10: then no part is less wide than that.
    private static void tongueBeyondTheSize() {
        DovetailRow shop = Shops.oneJoint(OAK, 10, FLOAT, 10, 200, 40);
        Check.due("it would not break", shop.breaksIn(0, 24), DovetailRow.NONE);
        Check.due("nor does it", shop.pass(24), 0);
        Check.due("how it is", shop.ofJoint(0, 0), WHOLE);
    }

    private static int floatAfterAMonth(int size, int tongue, int air) {
        DovetailRow shop = Shops.oneJoint(OAK, 1000, FLOAT, size, tongue, air);
        shop.pass(1);
        return shop.ofJoint(0, 0);
    }

    // Oak of 1000 at 164: 1008 wide after a month; at 40: 993.
    private static void floatSticks() {
        Check.due("the part by 1 wider", floatAfterAMonth(1007, 5, 164), STUCK);
        Check.due("as wide", floatAfterAMonth(1008, 5, 164), WHOLE);
        Check.due("by 1 less wide", floatAfterAMonth(1009, 5, 164), WHOLE);
        DovetailRow shop = Shops.oneJoint(OAK, 1000, FLOAT, 1007, 5, 164);
        Check.due("as it is glued", shop.ofJoint(0, 0), WHOLE);
        Check.due("sticking breaks nothing", shop.pass(1), 0);
        Check.due("then it is stuck", shop.ofJoint(0, 0), STUCK);
        Check.due("nor would it", shop.through(24), 0);
        Shops.setAir(shop, 115);
        Check.due("nor does it by the next month", shop.pass(1), 0);
        Check.due("the part, as wide as the size", shop.ofPart(0, 1), 1007);
        Check.due("then it sticks no longer", shop.ofJoint(0, 0), WHOLE);
    }

    private static void floatBreaks() {
        Check.due("as wide as the size less 2 tongues", floatAfterAMonth(1003, 5, 40), WHOLE);
        Check.due("by 1 less wide", floatAfterAMonth(1004, 5, 40), BROKEN);
        Check.due("as wide as the size less 2", floatAfterAMonth(1000, 4, 40), WHOLE);
        Check.due("as wide as the size less 6", floatAfterAMonth(1000, 3, 40), BROKEN);
        DovetailRow shop = Shops.oneJoint(OAK, 1000, FLOAT, 1004, 5, 40);
        Check.due("it would break", shop.breaksIn(0, 24), 1);
        DovetailRow holds = Shops.oneJoint(OAK, 1000, FLOAT, 1003, 5, 40);
        Check.due("it would hold a month", holds.breaksIn(0, 24), 2);
    }
}
