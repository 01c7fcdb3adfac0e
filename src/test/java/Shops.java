/** Shops that several tests begin with. */
final class Shops {
    private Shops() {
    }

    static DovetailRow empty() {
        return new DovetailRow();
    }

    /** A shop whose weather is the same in all months. */
    static DovetailRow in(int moisture) {
        DovetailRow shop = new DovetailRow();
        setAir(shop, moisture);
        return shop;
    }

    static void setAir(DovetailRow shop, int moisture) {
        for (int month = 0; month < 12; month++) {
            shop.weather(month, moisture);
        }
    }

    /** Oak board 0, flitch 3, place 5: 2000 wide, 9000 long, moisture 100, a knot from 500 to 700. */
    static DovetailRow oneBoard() {
        DovetailRow shop = new DovetailRow();
        shop.board(DovetailRow.OAK, 3, 5, 2000, 9000, 100);
        shop.knot(0, 500, 700);
        return shop;
    }

    /**
     * Pine board 0 of 4000 by 9000, moisture 200, and three parts of 1000 long and 1000 wide,
     * from 0, 2000 and 4000 on.
     */
    static DovetailRow threeParts() {
        DovetailRow shop = new DovetailRow();
        shop.board(DovetailRow.PINE, 2, 0, 4000, 9000, 200);
        shop.cut(0, 0, 1000, 1000, false);
        shop.cut(0, 2000, 1000, 1000, false);
        shop.cut(0, 4000, 1000, 1000, false);
        return shop;
    }

    /** The three parts, with DRY joints: 0 CROSS of 1000, 1 FLOAT of 1000 with a tongue of 5, 2 LONG of 1000. */
    static DovetailRow threeJoints() {
        DovetailRow shop = threeParts();
        shop.joint(DovetailRow.CROSS, 0, 1, 1000, 0);
        shop.joint(DovetailRow.FLOAT, 1, 2, 1000, 5);
        shop.joint(DovetailRow.LONG, 2, 0, 1000, 0);
        return shop;
    }

    /** The three joints, glued in one go. */
    static DovetailRow glued() {
        DovetailRow shop = threeJoints();
        shop.clamps(9);
        shop.glue(7);
        return shop;
    }

    /** As many boards, parts and joints as there may be; all edges sharp. */
    static DovetailRow full() {
        DovetailRow shop = new DovetailRow();
        for (int i = 0; i < 20; i++) {
            shop.board(DovetailRow.PINE, 0, i, 500, 5000, 100);
        }
        for (int i = 0; i < 40; i++) {
            shop.cut(i / 2, i % 2 * 1000, 500, 500, false);
        }
        for (int i = 0; i < 30; i++) {
            shop.joint(DovetailRow.LONG, i, i + 1, 500, 0);
        }
        shop.sharpen(0);
        shop.sharpen(1);
        return shop;
    }

    /**
     * A shop amid its work, in the month 3: boards 0 to 2 with knots, parts 0 to 4, worn edges, 9 clamps, and the
     * joints 0 BROKEN, 1 WHOLE, 2 LONG, 3 STUCK, 4 WHOLE, 5 DRY, which needs 0 and 2, and 6 DRY.
     */
    static DovetailRow busy() {
        DovetailRow shop = glued();
        shop.pass(2);
        shop.board(DovetailRow.PINE, 2, 1, 3000, 8000, 120);
        shop.board(DovetailRow.OAK, 7, 20, 2000, 5000, 100);
        shop.knot(1, 1500, 1600);
        shop.knot(2, 300, 400);
        shop.cut(1, 0, 1000, 1000, false);
        shop.cut(2, 1000, 1000, 1000, true);
        shop.coat(3);
        shop.joint(DovetailRow.FLOAT, 4, 3, 1000, 5);
        shop.joint(DovetailRow.CROSS, 4, 0, 500, 0);
        shop.joint(DovetailRow.CROSS, 3, 4, 900, 0);
        shop.joint(DovetailRow.LONG, 0, 1, 10, 0);
        shop.need(5, 0);
        shop.need(5, 2);
        shop.glue(8 + 16);
        shop.weather(2, 148);
        shop.weather(9, 60);
        shop.pass(1);
        return shop;
    }

    /**
     * Part 0 of a species and width, 1000 long, and the other part, both at 100, with a joint that is glued there;
     * then the air is the same all year.
     */
    static DovetailRow oneJoint(int species, int width, int kind, int size, int tongue, int air) {
        DovetailRow shop = new DovetailRow();
        shop.board(species, 0, 0, 6000, 5000, 100);
        shop.board(species == DovetailRow.PINE ? DovetailRow.OAK : DovetailRow.PINE, 1, 0, 6000, 5000, 100);
        shop.cut(0, 0, 1000, width, false);
        shop.cut(1, 0, 1000, 6000, false);
        shop.joint(kind, 0, 1, size, tongue);
        shop.clamps(99);
        shop.glue(1);
        setAir(shop, air);
        return shop;
    }

    /** Pine parts 0, which is 30000 long, and 1, with DRY LONG joints of these sizes, and so many clamps. */
    static DovetailRow longJoints(int clamps, int... sizes) {
        DovetailRow shop = longJointsAtFirst(sizes);
        shop.clamps(clamps);
        return shop;
    }

    /** The same, with the clamps that there are at first. */
    static DovetailRow longJointsAtFirst(int... sizes) {
        DovetailRow shop = new DovetailRow();
        shop.board(DovetailRow.PINE, 0, 0, 100, 30000, 100);
        shop.board(DovetailRow.PINE, 0, 1, 100, 30000, 100);
        shop.cut(0, 0, 30000, 100, false);
        shop.cut(1, 0, 100, 100, false);
        for (int size : sizes) {
            shop.joint(DovetailRow.LONG, 0, 1, size, 0);
        }
        return shop;
    }

    /** Oak at 100, with a CROSS of 1000 that was glued in the month 0, and still holds in this month. */
    static DovetailRow at(int month) {
        return later(oneJoint(DovetailRow.OAK, 1000, DovetailRow.CROSS, 1000, 0, 100), month);
    }

    /** The same, and one month of each year is so damp from now on that the joint breaks in it. */
    static DovetailRow damp(int month, int dampMonth) {
        DovetailRow shop = at(month);
        shop.weather(dampMonth, 300);
        return shop;
    }

    /**
     * Oak with 6 coats in this month, in air of 300 from now on: a CROSS of 67 breaks in the 24th month, one of 66
     * in the 25th.
     */
    static DovetailRow slow(int size, int month) {
        DovetailRow shop = later(oneJoint(DovetailRow.OAK, 1000, DovetailRow.CROSS, size, 0, 100), month);
        for (int i = 0; i < 6; i++) {
            shop.coat(0);
        }
        setAir(shop, 300);
        return shop;
    }

    /** Oak with 30 glued joints; those whose numbers are in the set are CROSS, and break in the next month. */
    static DovetailRow thirtyGlued(int set) {
        DovetailRow shop = new DovetailRow();
        shop.board(DovetailRow.OAK, 0, 0, 1000, 5000, 100);
        shop.cut(0, 0, 1000, 1000, false);
        shop.cut(0, 2000, 1000, 1000, false);
        for (int i = 0; i < 30; i++) {
            shop.sharpen(1);
            shop.joint((set >> i & 1) == 1 ? DovetailRow.CROSS : DovetailRow.LONG, 0, 1, 1000, 0);
            shop.glue(1 << i);
        }
        setAir(shop, 300);
        return shop;
    }

    /**
     * Oak with 6 coats and a CROSS of 500, in this month. One month of each year is damp from now on: the first one
     * makes the oak 20 moister, and the joint holds, the second one 27, and it breaks.
     */
    static DovetailRow breaksInTheSecondYear(int month, int dampMonth) {
        DovetailRow shop = later(oneJoint(DovetailRow.OAK, 1000, DovetailRow.CROSS, 500, 0, 100), month);
        for (int i = 0; i < 6; i++) {
            shop.coat(0);
        }
        shop.weather(dampMonth, 300);
        return shop;
    }

    /** The same shop, so many months later. */
    static DovetailRow later(DovetailRow shop, int months) {
        int left = months;
        while (left > 0) {
            shop.pass(Math.min(24, left));
            left -= Math.min(24, left);
        }
        return shop;
    }

    /** So many cuts of pieces of 50 by 50 from a board of a species, one after another, and no more. */
    static DovetailRow sawn(int species, int cuts) {
        DovetailRow shop = new DovetailRow();
        shop.board(species, 0, 0, 100, 10000, 100);
        for (int i = 0; i < cuts; i++) {
            shop.cut(0, i * 100, 50, 50, false);
        }
        return shop;
    }
}
