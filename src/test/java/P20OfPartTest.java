/** Promise 20: ofPart. */
public final class P20OfPartTest {
    public static void main(String[] args) {
        DovetailRow shop = Shops.in(180);
        shop.board(DovetailRow.PINE, 0, 0, 300, 5000, 60);
        shop.board(DovetailRow.OAK, 1, 0, 2000, 9000, 100);
        shop.cut(1, 4000, 200, 1500, false);
        shop.cut(0, 50, 200, 300, false);
        shop.coat(0);
        Check.due("board", shop.ofPart(0, 0), 1);
        Check.due("width", shop.ofPart(0, 1), 1500);
        Check.due("moisture", shop.ofPart(0, 2), 100);
        Check.due("coats", shop.ofPart(0, 3), 1);
        Check.due("from", shop.ofPart(0, 4), 4000);
        Check.due("board of 1", shop.ofPart(1, 0), 0);
        Check.due("width of 1", shop.ofPart(1, 1), 300);
        Check.due("moisture of 1", shop.ofPart(1, 2), 60);
        Check.due("coats of 1", shop.ofPart(1, 3), 0);
        Check.due("from of 1", shop.ofPart(1, 4), 50);
        shop.pass(1);
        // 80 / 5 = 16, 1500 * 5 * 16 / 10000 = 12
        Check.due("moisture then", shop.ofPart(0, 2), 116);
        Check.due("width then", shop.ofPart(0, 1), 1512);
        // 120 / 4 = 30, 300 * 2 * 30 / 10000 = 1
        Check.due("moisture of 1 then", shop.ofPart(1, 2), 90);
        Check.due("width of 1 then", shop.ofPart(1, 1), 301);

        Check.refused("part -1", Check.NO_SUCH, Shops::threeParts, s -> s.ofPart(-1, 0));
        Check.refused("part 3", Check.NO_SUCH, Shops::threeParts, s -> s.ofPart(3, 0));
        Check.refused("what -1", Check.RANGE, Shops::threeParts, s -> s.ofPart(0, -1));
        Check.refused("what 5", Check.RANGE, Shops::threeParts, s -> s.ofPart(0, 5));
        Check.refused("both", Check.NO_SUCH, Shops::threeParts, s -> s.ofPart(3, 5));
        Check.end();
    }
}
