/** Promise 2: weather. */
public final class P02WeatherTest {
    public static void main(String[] args) {
        DovetailRow shop = new DovetailRow();
        Check.due("the first month", shop.weather(0, 40), 100);
        Check.due("the first month again", shop.weather(0, 300), 40);
        Check.due("the last month", shop.weather(11, 41), 100);
        Check.due("the last month again", shop.weather(11, 100), 41);
        Check.due("the first month at last", shop.weather(0, 100), 300);

        Check.refused("month -1", Check.NO_SUCH, Shops::empty, s -> s.weather(-1, 100));
        Check.refused("month 12", Check.NO_SUCH, Shops::empty, s -> s.weather(12, 100));
        Check.refused("month far off", Check.NO_SUCH, Shops::empty, s -> s.weather(Integer.MIN_VALUE, 100));
        Check.refused("moisture 39", Check.RANGE, Shops::empty, s -> s.weather(0, 39));
        Check.refused("moisture 301", Check.RANGE, Shops::empty, s -> s.weather(11, 301));
        Check.refused("both wrong", Check.NO_SUCH, Shops::empty, s -> s.weather(12, 301));

        eachYear();
        Check.end();
    }

    // 7 is wet: the wood takes up a quarter of the difference in month 7, and in month 19 again.
    private static void eachYear() {
        DovetailRow shop = new DovetailRow();
        shop.board(DovetailRow.PINE, 0, 0, 100, 100, 100);
        shop.weather(7, 180);
        shop.pass(7);
        Check.due("before month 7", shop.ofBoard(0, 0), 100);
        shop.pass(1);
        Check.due("after month 7", shop.ofBoard(0, 0), 120);
        shop.pass(11);
        Check.due("before month 19", shop.ofBoard(0, 0), 100);
        shop.pass(1);
        Check.due("after month 19", shop.ofBoard(0, 0), 120);
    }
}
