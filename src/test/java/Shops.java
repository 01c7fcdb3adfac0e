/** Shops that several tests begin with. */
final class Shops {
    private Shops() {
    }

    static DovetailRow empty() {
        return new DovetailRow();
    }

    /** A shop whose weather is the same in all months. */
    static DovetailRow in(int moisture) {
        DovetailRow shop = new DovetailRow();
        setAir(shop, moisture);
        return shop;
    }

    static void setAir(DovetailRow shop, int moisture) {
        for (int month = 0; month < 12; month++) {
            shop.weather(month, moisture);
        }
    }

    /** Oak board 0, flitch 3, place 5: 2000 wide, 9000 long, moisture 100, a knot from 500 to 700. */
    static DovetailRow oneBoard() {
        DovetailRow shop = new DovetailRow();
        shop.board(DovetailRow.OAK, 3, 5, 2000, 9000, 100);
        shop.knot(0, 500, 700);
        return shop;
    }

    /**
     * Pine board 0 of 4000 by 9000, moisture 200, and three parts of 1000 long and 1000 wide,
     * from 0, 2000 and 4000 on.
     */
    static DovetailRow threeParts() {
        DovetailRow shop = new DovetailRow();
        shop.board(DovetailRow.PINE, 2, 0, 4000, 9000, 200);
        shop.cut(0, 0, 1000, 1000, false);
        shop.cut(0, 2000, 1000, 1000, false);
        shop.cut(0, 4000, 1000, 1000, false);
        return shop;
    }

    /** The three parts, with DRY joints: 0 CROSS of 1000, 1 FLOAT of 1000 with a tongue of 5, 2 LONG of 1000. */
    static DovetailRow threeJoints() {
        DovetailRow shop = threeParts();
        shop.joint(DovetailRow.CROSS, 0, 1, 1000, 0);
        shop.joint(DovetailRow.FLOAT, 1, 2, 1000, 5);
        shop.joint(DovetailRow.LONG, 2, 0, 1000, 0);
        return shop;
    }

    /** The three joints, glued in one go. */
    static DovetailRow glued() {
        DovetailRow shop = threeJoints();
        shop.clamps(9);
        shop.glue(7);
        return shop;
    }

    /** As many boards, parts and joints as there may be; all edges sharp. */
    static DovetailRow full() {
        DovetailRow shop = new DovetailRow();
        for (int i = 0; i < 20; i++) {
            shop.board(DovetailRow.PINE, 0, i, 500, 5000, 100);
        }
        for (int i = 0; i < 40; i++) {
            shop.cut(i / 2, i % 2 * 1000, 500, 500, false);
        }
        for (int i = 0; i < 30; i++) {
            shop.joint(DovetailRow.LONG, i, i + 1, 500, 0);
        }
        shop.sharpen(0);
        shop.sharpen(1);
        return shop;
    }
}
