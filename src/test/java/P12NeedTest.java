/** Promise 12: need. */
public final class P12NeedTest {
    public static void main(String[] args) {
        DovetailRow shop = Shops.threeJoints();
        Check.due("2 needs 1", shop.need(2, 1), 2);
        Check.due("2 needs 0", shop.need(2, 0), 3);
        Check.due("2 needs 0 again", shop.need(2, 0), 3);
        Check.due("1 needs 0", shop.need(1, 0), 1);
        Check.due("what 2 needs", shop.ofJoint(2, 2), 3);
        Check.due("what 1 needs", shop.ofJoint(1, 2), 1);
        Check.due("what 0 needs", shop.ofJoint(0, 2), 0);
        Check.due("the last needs the one before", Shops.full().need(29, 28), 1 << 28);

        Check.refused("joint -1", Check.NO_SUCH, Shops::threeJoints, s -> s.need(-1, 0));
        Check.refused("joint 3", Check.NO_SUCH, Shops::threeJoints, s -> s.need(3, 0));
        Check.refused("needed -1", Check.NO_SUCH, Shops::threeJoints, s -> s.need(0, -1));
        Check.refused("needed 3", Check.NO_SUCH, Shops::threeJoints, s -> s.need(0, 3));
        Check.refused("3 and 3", Check.NO_SUCH, Shops::threeJoints, s -> s.need(3, 3));
        Check.refused("itself", Check.RANGE, Shops::threeJoints, s -> s.need(1, 1));
        Check.refused("a higher one", Check.RANGE, Shops::threeJoints, s -> s.need(1, 2));
        Check.refused("glued", Check.STATE, Shops::glued, s -> s.need(1, 0));
        Check.refused("glued, and itself", Check.RANGE, Shops::glued, s -> s.need(1, 1));
        Check.refused("glued, no such joint", Check.NO_SUCH, Shops::glued, s -> s.need(1, 3));
        Check.refused("broken", Check.STATE, P12NeedTest::broken, s -> s.need(1, 0));

        DovetailRow some = Shops.threeJoints();
        some.glue(1);
        Check.due("a glued one is needed", some.need(1, 0), 1);
        Check.end();
    }

    private static DovetailRow broken() {
        DovetailRow shop = Shops.glued();
        shop.pass(24);
        return shop;
    }
}
