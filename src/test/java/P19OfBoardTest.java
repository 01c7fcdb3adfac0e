/** Promise 19: ofBoard. */
public final class P19OfBoardTest {
    public static void main(String[] args) {
        DovetailRow shop = Shops.in(180);
        shop.board(DovetailRow.PINE, 0, 0, 300, 5000, 60);
        shop.board(DovetailRow.OAK, 1, 0, 2000, 9000, 100);
        shop.knot(1, 0, 10);
        Check.due("moisture", shop.ofBoard(1, 0), 100);
        Check.due("width", shop.ofBoard(1, 1), 2000);
        Check.due("knots", shop.ofBoard(1, 2), 1);
        Check.due("moisture of 0", shop.ofBoard(0, 0), 60);
        Check.due("width of 0", shop.ofBoard(0, 1), 300);
        Check.due("knots of 0", shop.ofBoard(0, 2), 0);
        shop.cut(1, 1000, 1000, 1500, false);
        shop.pass(1);
        Check.due("moisture then", shop.ofBoard(1, 0), 120);
        Check.due("width then", shop.ofBoard(1, 1), 2020);
        // 300 * 2 * 30 / 10000 = 1.8
        Check.due("width of 0, towards 0", shop.ofBoard(0, 1), 301);
        Shops.setAir(shop, 40);
        shop.pass(2);
        // 90, 78, 69 and 120, 100, 85: 2000 * 5 * -15 / 10000 = -15
        Check.due("moisture of 0 at last", shop.ofBoard(0, 0), 69);
        Check.due("moisture at last", shop.ofBoard(1, 0), 85);
        Check.due("width at last", shop.ofBoard(1, 1), 1985);
        downwards();

        Check.refused("board -1", Check.NO_SUCH, Shops::oneBoard, s -> s.ofBoard(-1, 0));
        Check.refused("board 1", Check.NO_SUCH, Shops::oneBoard, s -> s.ofBoard(1, 0));
        Check.refused("what -1", Check.RANGE, Shops::oneBoard, s -> s.ofBoard(0, -1));
        Check.refused("what 3", Check.RANGE, Shops::oneBoard, s -> s.ofBoard(0, 3));
        Check.refused("both", Check.NO_SUCH, Shops::oneBoard, s -> s.ofBoard(1, 3));
        Check.end();
    }

    // 300 * 2 * -15 / 10000 = -0.9: it does not move
    private static void downwards() {
        DovetailRow shop = Shops.in(40);
        shop.board(DovetailRow.PINE, 0, 0, 300, 5000, 100);
        shop.pass(1);
        Check.due("moisture downwards", shop.ofBoard(0, 0), 85);
        Check.due("width downwards, towards 0", shop.ofBoard(0, 1), 300);
        shop.pass(1);
        // 74: -26, -1.56
        Check.due("width further downwards", shop.ofBoard(0, 1), 299);
    }
}
