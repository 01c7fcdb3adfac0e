/** Promise 1: no boards, parts and joints; sharp edges; the month 0. */
public final class P01NewObjectTest {
    public static void main(String[] args) {
        Check.refused("ofBoard(0, 0)", Check.NO_SUCH, Shops::empty, s -> s.ofBoard(0, 0));
        Check.refused("ofPart(0, 0)", Check.NO_SUCH, Shops::empty, s -> s.ofPart(0, 0));
        Check.refused("ofJoint(0, 0)", Check.NO_SUCH, Shops::empty, s -> s.ofJoint(0, 0));
        DovetailRow shop = new DovetailRow();
        Check.due("month()", shop.month(), 0);
        Check.due("sharpen(0)", shop.sharpen(0), 100);
        Check.due("sharpen(1)", shop.sharpen(1), 100);
        Check.due("clamps(1)", shop.clamps(1), 6);
        Check.due("through(24)", shop.through(24), 0);
        for (int month = 0; month < 12; month++) {
            Check.due("weather of " + month, shop.weather(month, 100), 100);
        }
        DovetailRow other = new DovetailRow();
        shop.board(DovetailRow.OAK, 0, 0, 100, 100, 100);
        shop.pass(1);
        Check.due("the month of another object", other.month(), 0);
        Check.due("a board of another object", other.board(DovetailRow.PINE, 0, 0, 100, 100, 100), 0);
        Check.end();
    }
}
