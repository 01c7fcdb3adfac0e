/** Promise 12, row by row: need. */
public final class Edge12NeedTest {
    public static void main(String[] args) {
        Sentence.holds("Lets a joint need another one.", Edge12NeedTest::lets);
        Sentence.holds("`joint`: a joint", Edge12NeedTest::aJoint);
        Sentence.holds("`needed`: one with a lower number", Edge12NeedTest::lower);
        Sentence.holds("Returns all that it needs then, as a set.", Edge12NeedTest::asASet);
        Sentence.holds("Throws `IndexOutOfBoundsException` if there is no such joint, of either",
                Edge12NeedTest::noJoint);
        Sentence.holds("Throws `IllegalArgumentException` if needed is not lower", Edge12NeedTest::notLower);
        Sentence.holds("Throws `IllegalStateException` if the joint is glued", Edge12NeedTest::glued);
        Sentence.end();
    }

    private static void lets() {
        DovetailRow shop = Shops.threeJoints();
        shop.need(2, 1);
        Check.due("what it needs", shop.ofJoint(2, 2), 2);
        Check.due("what the other one needs", shop.ofJoint(1, 2), 0);
        Check.refusedNow("it can't be glued without", Check.STATE, shop, s -> s.glue(4));
        // What is needed may be glued already.
        DovetailRow some = Shops.threeJoints();
        some.glue(2);
        Check.due("a glued one", some.need(2, 1), 2);
        Check.due("then it can be glued", some.glue(4), 4);
    }

    // The joint 0 has none that is lower.
    private static void aJoint() {
        Edge.ends(1, 29, Shops::full, (s, i) -> s.need(i, 0));
        Edge.beyond(Check.NO_SUCH, 0, 29, Shops::full, (s, i) -> s.need(i, 0));
        Check.refused("0", Check.RANGE, Shops::full, s -> s.need(0, 0));
    }

    private static void lower() {
        Edge.ends(0, 28, Shops::full, (s, i) -> s.need(29, i));
        Check.refused("29 of 29", Check.RANGE, Shops::full, s -> s.need(29, 29));
        Edge.ends(0, 14, Shops::full, (s, i) -> s.need(15, i));
        Check.refused("15 of 15", Check.RANGE, Shops::full, s -> s.need(15, 15));
        Check.refused("16 of 15", Check.RANGE, Shops::full, s -> s.need(15, 16));
        Check.refused("29 of 15", Check.RANGE, Shops::full, s -> s.need(15, 29));
        Edge.beyond(Check.NO_SUCH, 0, 29, Shops::full, (s, i) -> s.need(29, i));
    }

    private static void asASet() {
        Check.answers("0", 1, Shops::full, s -> s.need(29, 0));
        Check.answers("28", 1 << 28, Shops::full, s -> s.need(29, 28));
        DovetailRow shop = Shops.full();
        Check.due("5", shop.need(7, 5), 32);
        Check.due("5 again", shop.need(7, 5), 32);
        Check.due("3 too", shop.need(7, 3), 40);
        for (int needed = 0; needed < 7; needed++) {
            shop.need(7, needed);
        }
        Check.due("all", shop.need(7, 0), 127);
    }

    private static void noJoint() {
        Check.refused("none of none", Check.NO_SUCH, Shops::threeParts, s -> s.need(1, 0));
        Edge.beyond(Check.NO_SUCH, 0, 2, Shops::threeJoints, (s, i) -> s.need(i, 0));
        Edge.beyond(Check.NO_SUCH, 0, 2, Shops::threeJoints, (s, i) -> s.need(2, i));
        Check.refused("neither", Check.NO_SUCH, Shops::threeJoints, s -> s.need(3, -1));
        // As a shift of bits, 32 would be 0.
        Check.refused("32 is not 0", Check.NO_SUCH, Shops::full, s -> s.need(29, 32));
    }

    private static void notLower() {
        for (int joint = 0; joint < 3; joint++) {
            for (int needed = joint; needed < 3; needed++) {
                int one = joint;
                int other = needed;
                Check.refused(joint + " needs " + needed, Check.RANGE, Shops::threeJoints, s -> s.need(one, other));
            }
        }
    }

    // In a busy shop 0 is BROKEN, 3 STUCK, 4 WHOLE, 5 and 6 DRY.
    private static void glued() {
        Check.refused("WHOLE", Check.STATE, Shops::busy, s -> s.need(4, 0));
        Check.refused("STUCK", Check.STATE, Shops::busy, s -> s.need(3, 0));
        Check.refused("BROKEN", Check.STATE, Edge12NeedTest::broken, s -> s.need(1, 0));
        Check.answers("DRY, with what it had", 21, Shops::busy, s -> s.need(5, 4));
        Check.answers("DRY", 32, Shops::busy, s -> s.need(6, 5));
    }

    private static DovetailRow broken() {
        DovetailRow shop = Shops.glued();
        shop.pass(24);
        Check.due("joint 1", shop.ofJoint(1, 0), DovetailRow.BROKEN);
        return shop;
    }
}
