/** Promise 21: ofJoint, and how joints are. */
public final class P21OfJointTest {
    public static void main(String[] args) {
        DovetailRow shop = Shops.threeJoints();
        shop.need(2, 1);
        Check.due("how it is", shop.ofJoint(2, 0), DovetailRow.DRY);
        Check.due("its size", shop.ofJoint(2, 1), 1000);
        Check.due("what it needs", shop.ofJoint(2, 2), 2);
        Check.due("its part", shop.ofJoint(2, 3), 2);
        Check.due("the other one", shop.ofJoint(2, 4), 0);
        Check.due("the part of 1", shop.ofJoint(1, 3), 1);
        Check.due("the other one of 1", shop.ofJoint(1, 4), 2);

        Check.refused("joint -1", Check.NO_SUCH, Shops::threeJoints, s -> s.ofJoint(-1, 0));
        Check.refused("joint 3", Check.NO_SUCH, Shops::threeJoints, s -> s.ofJoint(3, 0));
        Check.refused("what -1", Check.RANGE, Shops::threeJoints, s -> s.ofJoint(0, -1));
        Check.refused("what 5", Check.RANGE, Shops::threeJoints, s -> s.ofJoint(0, 5));
        Check.refused("both", Check.NO_SUCH, Shops::threeJoints, s -> s.ofJoint(3, 5));

        stuck();
        broken();
        Check.end();
    }

    // The FLOAT is 1000, its part 1000 wide at 200: it moves 1 for each 5 of moisture.
    private static void stuck() {
        DovetailRow shop = Shops.threeJoints();
        Shops.setAir(shop, 216);
        shop.pass(1);
        Check.due("width, no wider", shop.ofPart(1, 1), 1000);
        shop.clamps(9);
        shop.glue(7);
        Check.due("as wide as the groove", shop.ofJoint(1, 0), DovetailRow.WHOLE);
        shop.pass(1);
        Check.due("width, by 1 wider", shop.ofPart(1, 1), 1001);
        Check.due("wider than the groove", shop.ofJoint(1, 0), DovetailRow.STUCK);
        Check.due("the CROSS", shop.ofJoint(0, 0), DovetailRow.WHOLE);
        Check.due("the LONG", shop.ofJoint(2, 0), DovetailRow.WHOLE);
        Shops.setAir(shop, 200);
        shop.pass(24);
        Check.due("as wide again", shop.ofJoint(1, 0), DovetailRow.WHOLE);

        DovetailRow dry = Shops.threeJoints();
        Shops.setAir(dry, 300);
        dry.pass(3);
        Check.due("a dry one that is too wide", dry.ofJoint(1, 0), DovetailRow.DRY);
        dry.glue(2);
        Check.due("glued, it is stuck at once", dry.ofJoint(1, 0), DovetailRow.STUCK);
    }

    // Broken goes before stuck, and stays, whatever the weather does.
    private static void broken() {
        DovetailRow shop = Shops.glued();
        shop.pass(24);
        Check.due("broken", shop.ofJoint(1, 0), DovetailRow.BROKEN);
        Shops.setAir(shop, 300);
        shop.pass(24);
        Check.due("wide again", shop.ofPart(1, 1), 1020);
        Check.due("still broken", shop.ofJoint(1, 0), DovetailRow.BROKEN);
        Check.due("its size", shop.ofJoint(1, 1), 1000);
        Check.due("repaired", shop.repair(1), 1025);
        Check.due("whole then", shop.ofJoint(1, 0), DovetailRow.WHOLE);
    }
}
