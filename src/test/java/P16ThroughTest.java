/** Promise 16: through. */
public final class P16ThroughTest {
    public static void main(String[] args) {
        Check.refused("0", Check.RANGE, Shops::glued, s -> s.through(0));
        Check.refused("25", Check.RANGE, Shops::glued, s -> s.through(25));
        Check.refused("-1", Check.RANGE, Shops::glued, s -> s.through(-1));
        Check.due("without joints", new DovetailRow().through(1), 0);
        Check.due("dry ones", Shops.threeJoints().through(24), 0);

        DovetailRow shop = Shops.glued();
        Check.due("the first month", shop.through(1), 0);
        Check.due("two months", shop.through(2), 1);
        Check.due("three months", shop.through(3), 3);
        Check.due("all months", shop.through(24), 3);
        Check.due("the month is what it was", shop.month(), 0);
        Check.due("the part is what it was", shop.ofPart(0, 2), 200);
        Check.due("the joint is what it was", shop.ofJoint(0, 0), DovetailRow.WHOLE);
        shop.pass(2);
        Check.due("without the broken one", shop.through(24), 2);
        shop.pass(1);
        Check.due("without both", shop.through(24), 0);
        Check.due("by the weather as it is set", drier(), 2);
        pastTheLastMonth();
        backAgain();
        theLastOf30();
        Check.end();
    }

    private static int drier() {
        DovetailRow shop = Shops.threeJoints();
        shop.pass(24);
        shop.glue(1);
        shop.glue(4);
        shop.glue(2);
        return shop.through(1);
    }

    private static void pastTheLastMonth() {
        DovetailRow shop = new DovetailRow();
        shop.board(DovetailRow.OAK, 0, 0, 1000, 5000, 100);
        shop.cut(0, 0, 1000, 1000, false);
        shop.cut(0, 2000, 1000, 1000, false);
        shop.joint(DovetailRow.CROSS, 0, 1, 1000, 0);
        shop.glue(1);
        for (int i = 0; i < 50; i++) {
            shop.pass(24);
        }
        shop.weather(2, 300);
        Check.due("two months past 1200", shop.through(2), 0);
        Check.due("three months past 1200", shop.through(3), 1);
        Check.due("breaksIn past 1200", shop.breaksIn(0, 24), 3);
    }

    // One wet month, then dry ones: what broke in between stays broken.
    private static void backAgain() {
        DovetailRow shop = Shops.glued();
        Shops.setAir(shop, 200);
        shop.weather(1, 300);
        // 225 in month 1: the CROSS moves by 5 and holds, the FLOAT is stuck
        Check.due("a quarter of 100", shop.through(24), 0);
        shop.weather(2, 300);
        // 243 in month 2: moved by 8
        Check.due("two wet months", shop.through(24), 1);
    }

    private static void theLastOf30() {
        DovetailRow shop = new DovetailRow();
        shop.board(DovetailRow.PINE, 0, 0, 1000, 5000, 200);
        shop.cut(0, 0, 1000, 1000, false);
        shop.cut(0, 2000, 1000, 1000, false);
        for (int i = 0; i < 30; i++) {
            shop.joint(i < 29 ? DovetailRow.LONG : DovetailRow.CROSS, 0, 1, 1000, 0);
        }
        shop.glue(1 << 29);
        shop.glue(1);
        Check.due("the last of 30", shop.through(24), 1 << 29);
    }
}
