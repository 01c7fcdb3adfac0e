/** Promise 15, row by row: repair. */
public final class Edge15RepairTest {
    private static final int OAK = DovetailRow.OAK;
    private static final int CROSS = DovetailRow.CROSS;
    private static final int FLOAT = DovetailRow.FLOAT;
    private static final int WHOLE = DovetailRow.WHOLE;

    public static void main(String[] args) {
        Sentence.holds("Repairs a joint, glued as it is now", Edge15RepairTest::asItIsNow);
        Sentence.holds("the groove of a FLOAT is as wide as its part is now, and a tongue, together, then.",
                Edge15RepairTest::theGroove);
        Sentence.holds("`joint`: a joint", Edge15RepairTest::aJoint);
        Sentence.holds("Returns its size then.", Edge15RepairTest::itsSize);
        Sentence.holds("Throws `IndexOutOfBoundsException` if there is no such joint", Edge15RepairTest::noJoint);
        Sentence.holds("Throws `IllegalStateException` if it is not BROKEN", Edge15RepairTest::notBroken);
        Sentence.end();
    }

    /** Oak of 1000 at 100 with a joint that broke in a month at this air. */
    private static DovetailRow broken(int kind, int tongue, int air) {
        DovetailRow shop = Shops.oneJoint(OAK, 1000, kind, 1000, tongue, air);
        shop.pass(1);
        Check.due("it is broken", shop.ofJoint(0, 0), DovetailRow.BROKEN);
        return shop;
    }

    // At 148 it is 112 then. By 12 more, 1000 move by 6; by 11 more, by 5; and likewise drier.
    private static void asItIsNow() {
        int[] airs = {156, 160, 68, 64};
        int[] due = {DovetailRow.NONE, 1, DovetailRow.NONE, 1};
        for (int i = 0; i < 4; i++) {
            DovetailRow shop = broken(CROSS, 0, 148);
            shop.repair(0);
            Check.due("whole then", shop.ofJoint(0, 0), WHOLE);
            Shops.setAir(shop, airs[i]);
            Check.due("in air of " + airs[i], shop.breaksIn(0, 1), due[i]);
            Check.due("what breaks then", shop.pass(1), due[i] == 1 ? 1 : 0);
        }
        DovetailRow twice = broken(CROSS, 0, 148);
        twice.repair(0);
        Shops.setAir(twice, 300);
        Check.due("it breaks again", twice.pass(1), 1);
        Check.due("it is repaired again", twice.repair(0), 1000);
        Check.due("and is whole", twice.ofJoint(0, 0), WHOLE);
    }

    // Oak of 1000, 85 moist, is 993 wide: with a tongue of 3, the groove is 996 then, and the part may be 990.
    private static void theGroove() {
        DovetailRow shop = broken(FLOAT, 3, 40);
        Check.due("how wide the part is", shop.ofPart(0, 1), 993);
        Check.due("and a tongue", shop.repair(0), 996);
        Check.due("whole", shop.ofJoint(0, 0), WHOLE);
        groove("as wide as the size", 109, 996, WHOLE);
        groove("1 wider", 117, 997, DovetailRow.STUCK);
        groove("as wide as the size less 2 tongues", 65, 990, WHOLE);
        groove("1 less wide", 57, 989, DovetailRow.BROKEN);
        DovetailRow widest = broken(FLOAT, 1, 40);
        Check.due("a tongue of 1", widest.repair(0), 994);
    }

    // The part is repaired at 85, and goes on at this air for a month.
    private static void groove(String what, int air, int width, int due) {
        DovetailRow shop = broken(FLOAT, 3, 40);
        shop.repair(0);
        Shops.setAir(shop, air);
        shop.pass(1);
        Check.due(what + ": how wide the part is", shop.ofPart(0, 1), width);
        Check.due(what, shop.ofJoint(0, 0), due);
    }

    private static void aJoint() {
        for (int joint = 0; joint < 30; joint += 29) {
            int one = joint;
            Check.answers("joint " + joint, 1000, Edge15RepairTest::thirtyBroken, s -> s.repair(one));
        }
        Edge.beyond(Check.NO_SUCH, 0, 29, Edge15RepairTest::thirtyBroken, (s, i) -> s.repair(i));
    }

    private static DovetailRow thirtyBroken() {
        return Shops.later(Shops.thirtyGlued((1 << 30) - 1), 1);
    }

    private static void itsSize() {
        Check.answers("a CROSS keeps its size", 1000, () -> broken(CROSS, 0, 148), s -> s.repair(0));
        Check.answers("a FLOAT has a new one", 996, () -> broken(FLOAT, 3, 40), s -> s.repair(0));
        DovetailRow shop = broken(FLOAT, 3, 40);
        shop.repair(0);
        Check.due("its size from then on", shop.ofJoint(0, 1), 996);
        Check.due("its part", shop.ofJoint(0, 3), 0);
        // What it needs, and that others need it, is as it was.
        DovetailRow busy = Shops.busy();
        busy.repair(0);
        Check.due("what 5 needs", busy.ofJoint(5, 2), 5);
    }

    private static void noJoint() {
        Check.refused("none of none", Check.NO_SUCH, Shops::threeParts, s -> s.repair(0));
        Edge.beyond(Check.NO_SUCH, 0, 6, Shops::busy, (s, i) -> s.repair(i));
    }

    // In a busy shop 1 is a WHOLE FLOAT, 2 a LONG, 3 STUCK, 4 a WHOLE CROSS, 5 and 6 DRY.
    private static void notBroken() {
        Check.answers("the broken one", 1000, Shops::busy, s -> s.repair(0));
        for (int joint = 1; joint <= 6; joint++) {
            int one = joint;
            Check.refused("joint " + joint, Check.STATE, Shops::busy, s -> s.repair(one));
        }
        Check.refused("one just repaired", Check.STATE, Edge15RepairTest::repaired, s -> s.repair(0));
    }

    private static DovetailRow repaired() {
        DovetailRow shop = Shops.busy();
        shop.repair(0);
        return shop;
    }
}
