/** Promise 14: glue. */
public final class P14GlueTest {
    public static void main(String[] args) {
        DovetailRow shop = Shops.threeJoints();
        Check.due("one", shop.glue(4), 4);
        Check.due("how it is", shop.ofJoint(2, 0), DovetailRow.WHOLE);
        Check.due("how another is", shop.ofJoint(0, 0), DovetailRow.DRY);
        Check.due("the two others", shop.glue(3), 8);
        Check.due("how it is then", shop.ofJoint(0, 0), DovetailRow.WHOLE);

        Check.refused("nothing", Check.RANGE, Shops::threeJoints, s -> s.glue(0));
        Check.refused("below 0", Check.RANGE, Shops::threeJoints, s -> s.glue(-1));
        Check.refused("the lowest", Check.RANGE, Shops::threeJoints, s -> s.glue(Integer.MIN_VALUE));
        Check.refused("one that there is not", Check.RANGE, Shops::threeJoints, s -> s.glue(8));
        Check.refused("one more that there is not", Check.RANGE, Shops::threeJoints, s -> s.glue(9));
        Check.refused("far off", Check.RANGE, Shops::threeJoints, s -> s.glue(Integer.MAX_VALUE));
        Check.refused("without joints", Check.RANGE, Shops::empty, s -> s.glue(1));
        Check.refused("31 of 30", Check.RANGE, Shops::full, s -> s.glue(1 << 30));
        Check.due("the last of 30", Shops.full().glue(1 << 29), 3);
        Check.refused("a glued one", Check.STATE, Shops::glued, s -> s.glue(2));
        Check.refused("a broken one", Check.STATE, P14GlueTest::broken, s -> s.glue(1));
        Check.refused("glued, and one that there is not", Check.RANGE, Shops::glued, s -> s.glue(9));

        needs();
        minutes();
        clamps();
        moistures();
        Check.end();
    }

    private static DovetailRow broken() {
        DovetailRow shop = Shops.glued();
        shop.pass(24);
        return shop;
    }

    private static DovetailRow chain() {
        DovetailRow shop = Shops.threeJoints();
        shop.clamps(9);
        shop.need(2, 1);
        shop.need(1, 0);
        return shop;
    }

    private static void needs() {
        Check.refused("2 without 1", Check.STATE, P14GlueTest::chain, s -> s.glue(4));
        Check.refused("2 and 1 without 0", Check.STATE, P14GlueTest::chain, s -> s.glue(6));
        Check.refused("2 and 0 without 1", Check.STATE, P14GlueTest::chain, s -> s.glue(5));
        Check.due("all", chain().glue(7), 12);
        DovetailRow shop = chain();
        Check.due("0", shop.glue(1), 4);
        Check.due("then 1 and 2", shop.glue(6), 8);
        // What is needed is that it was glued; broken since, it still serves.
        DovetailRow late = chain();
        late.glue(1);
        late.pass(2);
        Check.due("0 broke", late.ofJoint(0, 0), DovetailRow.BROKEN);
        Check.due("1 after that", late.glue(2), 4);
    }

    private static void minutes() {
        Check.due("999", Shops.longJoints(99, 999).glue(1), 3);
        Check.due("1000", Shops.longJoints(99, 1000).glue(1), 4);
        Check.due("27999", Shops.longJoints(99, 27999).glue(1), 30);
        Check.refused("28000", Check.STATE, () -> Shops.longJoints(99, 28000), s -> s.glue(1));
        Check.due("ten of 3", Shops.longJoints(99, 10, 10, 10, 10, 10, 10, 10, 10, 10, 10).glue(1023), 30);
        Check.refused("one of them longer", Check.STATE,
                () -> Shops.longJoints(99, 10, 10, 10, 10, 10, 10, 10, 10, 10, 1000), s -> s.glue(1023));
        Check.due("each is divided alone", Shops.longJoints(99, 999, 999).glue(3), 6);
        Check.due("nine of them", Shops.longJoints(99, 10, 10, 10, 10, 10, 10, 10, 10, 10, 1000).glue(1022), 28);
        // What was glued earlier takes no time now.
        DovetailRow shop = Shops.longJoints(99, 27000, 27000);
        Check.due("the first", shop.glue(1), 30);
        Check.due("the second", shop.glue(2), 30);
    }

    private static void clamps() {
        Check.due("1 for 499", Shops.longJoints(1, 499).glue(1), 3);
        Check.refused("2 for 500", Check.STATE, () -> Shops.longJoints(1, 500), s -> s.glue(1));
        Check.due("2 for 500 of 2", Shops.longJoints(2, 500).glue(1), 3);
        Check.due("each is divided alone", Shops.longJoints(2, 499, 499).glue(3), 6);
        Check.refused("3 for 499 and 500", Check.STATE, () -> Shops.longJoints(2, 499, 500), s -> s.glue(3));
        Check.due("3 of 3", Shops.longJoints(3, 499, 500).glue(3), 6);
        Check.due("6 at first", Shops.longJoints(6, 2999).glue(1), 5);
        Check.refused("7 at first", Check.STATE, () -> Shops.longJoints(6, 3000), s -> s.glue(1));
    }

    // A CROSS counts from when it is glued, not from when it is made or its part cut.
    private static void moistures() {
        DovetailRow shop = Shops.threeJoints();
        shop.pass(2);
        shop.glue(1);
        // from 157 on: 143, 133, 125 move by -2, -4, -6
        Check.due("a late CROSS breaks", shop.breaksIn(0, 24), 3);
        Check.due("after two more", shop.pass(2), 0);
        Check.due("after the third", shop.pass(1), 1);
    }
}
