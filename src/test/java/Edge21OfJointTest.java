/** Promise 21, row by row: ofJoint. */
public final class Edge21OfJointTest {
    public static void main(String[] args) {
        Sentence.holds("`joint`: a joint", Edge21OfJointTest::aJoint);
        Sentence.holds("`what`: 0 DRY to BROKEN, 1 its size, 2 what it needs, as a set, 3 its part, 4 the other one",
                Edge21OfJointTest::what);
        Sentence.holds("Tells of a joint: 0 DRY to BROKEN", Edge21OfJointTest::howItIs);
        Sentence.holds("1 its size", Edge21OfJointTest::itsSize);
        Sentence.holds("2 what it needs, as a set", Edge21OfJointTest::whatItNeeds);
        Sentence.holds("3 its part, 4 the other one", Edge21OfJointTest::parts);
        Sentence.holds("Throws `IndexOutOfBoundsException` if there is no such joint", Edge21OfJointTest::noJoint);
        Sentence.holds("Throws `IllegalArgumentException` if what is out of its range",
                Edge21OfJointTest::outOfItsRange);
        Sentence.end();
    }

    private static void aJoint() {
        Edge.range(Check.NO_SUCH, 0, 6, Shops::busy, (s, i) -> s.ofJoint(i, 0));
        Edge.range(Check.NO_SUCH, 0, 29, Shops::full, (s, i) -> s.ofJoint(i, 4));
    }

    private static void what() {
        Edge.range(Check.RANGE, 0, 4, Shops::busy, (s, i) -> s.ofJoint(0, i));
        Edge.range(Check.RANGE, 0, 4, Shops::full, (s, i) -> s.ofJoint(29, i));
    }

    private static void howItIs() {
        int[] due = {DovetailRow.BROKEN, DovetailRow.WHOLE, DovetailRow.WHOLE, DovetailRow.STUCK, DovetailRow.WHOLE,
            DovetailRow.DRY, DovetailRow.DRY};
        for (int joint = 0; joint < 7; joint++) {
            int one = joint;
            Check.answers("joint " + joint, due[joint], Shops::busy, s -> s.ofJoint(one, 0));
        }
    }

    private static void itsSize() {
        Check.answers("the least", 10, Shops::busy, s -> s.ofJoint(6, 1));
        Check.answers("the greatest", 30000, () -> Shops.longJoints(6, 30000), s -> s.ofJoint(0, 1));
        Check.answers("of a broken FLOAT", 1000, () -> Shops.later(Shops.glued(), 3), s -> s.ofJoint(1, 1));
    }

    private static void whatItNeeds() {
        Check.answers("nothing", 0, Shops::busy, s -> s.ofJoint(6, 2));
        Check.answers("0 and 2", 5, Shops::busy, s -> s.ofJoint(5, 2));
        DovetailRow shop = Shops.full();
        for (int needed = 0; needed < 29; needed++) {
            shop.need(29, needed);
        }
        Check.due("all that it may", shop.ofJoint(29, 2), (1 << 29) - 1);
        // It still needs what it needed when it is glued, whether that is broken or not.
        DovetailRow busy = Shops.busy();
        busy.glue(32);
        Check.due("when it is glued", busy.ofJoint(5, 2), 5);
    }

    private static void parts() {
        Check.answers("its part", 4, Shops::busy, s -> s.ofJoint(3, 3));
        Check.answers("the other one", 3, Shops::busy, s -> s.ofJoint(3, 4));
        Check.answers("the first part", 0, Shops::full, s -> s.ofJoint(0, 3));
        Check.answers("the last part", 39, Edge21OfJointTest::withTheLast, s -> s.ofJoint(0, 4));
        Check.answers("the last but one", 38, Edge21OfJointTest::withTheLast, s -> s.ofJoint(0, 3));
    }

    private static DovetailRow withTheLast() {
        DovetailRow shop = Shops.sawn(DovetailRow.PINE, 40);
        shop.joint(DovetailRow.LONG, 38, 39, 10, 0);
        return shop;
    }

    private static void noJoint() {
        Check.refused("none of none", Check.NO_SUCH, Shops::threeParts, s -> s.ofJoint(0, 0));
        for (int what = 0; what <= 4; what++) {
            int asked = what;
            Edge.beyond(Check.NO_SUCH, 0, 6, Shops::busy, (s, i) -> s.ofJoint(i, asked));
        }
    }

    private static void outOfItsRange() {
        for (int joint = 0; joint < 7; joint++) {
            int one = joint;
            Edge.beyond(Check.RANGE, 0, 4, Shops::busy, (s, i) -> s.ofJoint(one, i));
        }
    }
}
