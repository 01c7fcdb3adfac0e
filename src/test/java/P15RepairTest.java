/** Promise 15: repair. */
public final class P15RepairTest {
    public static void main(String[] args) {
        Check.refused("joint -1", Check.NO_SUCH, Shops::glued, s -> s.repair(-1));
        Check.refused("joint 3", Check.NO_SUCH, Shops::glued, s -> s.repair(3));
        Check.refused("dry", Check.STATE, Shops::threeJoints, s -> s.repair(0));
        Check.refused("whole", Check.STATE, Shops::glued, s -> s.repair(0));
        Check.refused("repaired", Check.STATE, P15RepairTest::repaired, s -> s.repair(0));
        Check.refused("stuck", Check.STATE, P15RepairTest::stuck, s -> s.repair(1));

        // After 3 months the moisture is 143: the parts are 989 wide.
        DovetailRow shop = Shops.glued();
        shop.pass(3);
        Check.due("a CROSS keeps its size", shop.repair(0), 1000);
        Check.due("how it is", shop.ofJoint(0, 0), DovetailRow.WHOLE);
        Check.due("its size", shop.ofJoint(0, 1), 1000);
        Check.due("a FLOAT is as wide as its part, and a tongue", shop.repair(1), 994);
        Check.due("how that is", shop.ofJoint(1, 0), DovetailRow.WHOLE);
        Check.due("its size then", shop.ofJoint(1, 1), 994);
        // The CROSS counts from 143 on: 133, 125, 119, 115 move by -2, -3, -4, -5, and 112 by -6.
        Check.due("when the CROSS breaks again", shop.breaksIn(0, 24), 5);
        Check.due("so it does", shop.pass(5), 2);
        Check.due("the CROSS", shop.ofJoint(0, 0), DovetailRow.BROKEN);
        Check.due("repaired once more", shop.repair(0), 1000);
        Check.end();
    }

    private static DovetailRow repaired() {
        DovetailRow shop = Shops.glued();
        shop.pass(3);
        shop.repair(0);
        return shop;
    }

    private static DovetailRow stuck() {
        DovetailRow shop = Shops.glued();
        Shops.setAir(shop, 300);
        shop.pass(1);
        return shop;
    }
}
