/** Promise 18: month. */
public final class P18MonthTest {
    public static void main(String[] args) {
        DovetailRow shop = new DovetailRow();
        Check.due("at first", shop.month(), 0);
        shop.pass(1);
        Check.due("after 1", shop.month(), 1);
        shop.pass(24);
        Check.due("after 25", shop.month(), 25);
        shop.through(24);
        Check.due("after through", shop.month(), 25);
        for (int i = 0; i < 48; i++) {
            shop.pass(24);
        }
        shop.pass(23);
        Check.due("the last", shop.month(), 1200);
        Check.end();
    }
}
