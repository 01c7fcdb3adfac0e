/** Promise 17: breaksIn, and when joints break. */
public final class P17BreaksInTest {
    private static final int CROSS = DovetailRow.CROSS;
    private static final int FLOAT = DovetailRow.FLOAT;

    public static void main(String[] args) {
        Check.refused("joint -1", Check.NO_SUCH, Shops::glued, s -> s.breaksIn(-1, 1));
        Check.refused("joint 3", Check.NO_SUCH, Shops::glued, s -> s.breaksIn(3, 1));
        Check.refused("joint 3, and a range", Check.NO_SUCH, Shops::glued, s -> s.breaksIn(3, 0));
        Check.refused("0", Check.RANGE, Shops::glued, s -> s.breaksIn(0, 0));
        Check.refused("25", Check.RANGE, Shops::glued, s -> s.breaksIn(0, 25));
        Check.refused("dry", Check.STATE, Shops::threeJoints, s -> s.breaksIn(0, 1));
        Check.refused("dry, and a range", Check.RANGE, Shops::threeJoints, s -> s.breaksIn(0, 25));
        Check.refused("broken", Check.STATE, P17BreaksInTest::broken, s -> s.breaksIn(0, 1));

        DovetailRow shop = Shops.glued();
        Check.due("the CROSS in 1", shop.breaksIn(0, 1), DovetailRow.NONE);
        Check.due("the CROSS in 2", shop.breaksIn(0, 2), 2);
        Check.due("the CROSS in 24", shop.breaksIn(0, 24), 2);
        Check.due("the FLOAT in 2", shop.breaksIn(1, 2), DovetailRow.NONE);
        Check.due("the FLOAT in 24", shop.breaksIn(1, 24), 3);
        Check.due("the LONG", shop.breaksIn(2, 24), DovetailRow.NONE);
        shop.pass(1);
        Check.due("a month later", shop.breaksIn(0, 24), 1);

        eitherWay();
        bySpecies();
        coats();
        lastMonth();
        floats();
        Check.end();
    }

    private static DovetailRow broken() {
        DovetailRow shop = Shops.glued();
        shop.pass(2);
        return shop;
    }

    // Oak from 100 by 16: moved by size * 5 * 16 / 10000, 6 from 750 on
    private static void eitherWay() {
        Check.due("moved by 5", Shops.oneJoint(3, 1000, CROSS, 749, 0, 164).breaksIn(0, 1), DovetailRow.NONE);
        Check.due("moved by 6", Shops.oneJoint(3, 1000, CROSS, 750, 0, 164).breaksIn(0, 1), 1);
        Check.due("moved by -5", Shops.oneJoint(3, 1000, CROSS, 749, 0, 40).breaksIn(0, 1), DovetailRow.NONE);
        // by -15: 6 from 800 on
        Check.due("moved by -5 still", Shops.oneJoint(3, 1000, CROSS, 799, 0, 40).breaksIn(0, 1), DovetailRow.NONE);
        Check.due("moved by -6", Shops.oneJoint(3, 1000, CROSS, 800, 0, 40).breaksIn(0, 1), 1);
    }

    // 6000 / species' number times 16: the part's species counts, not the other one's
    private static void bySpecies() {
        int[] sizes = {1875, 1250, 938, 750};
        for (int species = 0; species <= 3; species++) {
            int size = sizes[species];
            Check.due("just not", Shops.oneJoint(species, 6000, CROSS, size - 1, 0, 164).pass(1), 0);
            Check.due("just so", Shops.oneJoint(species, 6000, CROSS, size, 0, 164).pass(1), 1);
        }
    }

    private static void coats() {
        for (int coats = 0; coats <= 6; coats++) {
            DovetailRow shop = Shops.oneJoint(3, 1000, CROSS, 1000, 0, 300);
            for (int i = 0; i < coats; i++) {
                shop.coat(0);
            }
            // moister by 200 divided by 4 to 10, so by 20 at least
            Check.due("with " + coats + " coats", shop.breaksIn(0, 1), 1);
        }
        // moister by 11, then 20: moved by 5, then 10
        DovetailRow bare = Shops.oneJoint(3, 1000, CROSS, 1000, 0, 147);
        Check.due("without coats", bare.breaksIn(0, 24), 2);
        for (int i = 0; i < 6; i++) {
            bare.coat(0);
        }
        // moister by 4, 8, 11, then 14
        Check.due("with 6 coats", bare.breaksIn(0, 24), 4);
    }

    // The year's weather goes round.
    private static void lastMonth() {
        DovetailRow shop = Shops.oneJoint(3, 1000, CROSS, 1000, 0, 100);
        shop.pass(13);
        shop.weather(0, 300);
        Check.due("month 24, as the 12th", shop.breaksIn(0, 12), 12);
        Check.due("not before", shop.breaksIn(0, 11), DovetailRow.NONE);
        // Oak of 260 moves by 6 when it is 47 moister: 112, 121, 128, 133, 137, 140, 142, 144, 145, 146, 147
        DovetailRow slow = Shops.oneJoint(3, 260, CROSS, 260, 0, 150);
        Check.due("a slow one", slow.breaksIn(0, 24), 11);
        Check.due("not in 10", slow.breaksIn(0, 10), DovetailRow.NONE);
    }

    // Oak of 1000, from 100 down to 85: 993 wide (7.5 towards 0)
    private static void floats() {
        Check.due("as wide as it has to be", Shops.oneJoint(3, 1000, FLOAT, 1003, 5, 40).breaksIn(0, 1),
                DovetailRow.NONE);
        Check.due("less wide", Shops.oneJoint(3, 1000, FLOAT, 1004, 5, 40).breaksIn(0, 1), 1);
        Check.due("it never breaks by being wide", Shops.oneJoint(3, 1000, FLOAT, 1000, 5, 300).breaksIn(0, 24),
                DovetailRow.NONE);
        DovetailRow shop = Shops.oneJoint(3, 1000, FLOAT, 1000, 5, 300);
        Check.due("stuck", shop.pass(1), 0);
        Check.due("how it is", shop.ofJoint(0, 0), DovetailRow.STUCK);
        Check.due("a stuck one", shop.through(24), 0);
        Shops.setAir(shop, 40);
        Check.due("a stuck one, as it dries", shop.breaksIn(0, 24) > 1, true);
    }
}
