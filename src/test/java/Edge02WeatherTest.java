/** Promise 2, row by row: weather. */
public final class Edge02WeatherTest {
    public static void main(String[] args) {
        Sentence.holds("Sets the weather of a month of each year.", Edge02WeatherTest::eachYear);
        Sentence.holds("`inMonth`: 0 to 11: the remainder", Edge02WeatherTest::inMonth);
        Sentence.holds("`moisture`: 40 to 300", Edge02WeatherTest::moisture);
        Sentence.holds("Returns the one before.", Edge02WeatherTest::theOneBefore);
        Sentence.holds("Throws `IndexOutOfBoundsException` if there is no such month", Edge02WeatherTest::noMonth);
        Sentence.holds("Throws `IllegalArgumentException` if moisture is out of its range",
                Edge02WeatherTest::outOfItsRange);
        Sentence.end();
    }

    // The month 3, 15 .. 1191 are damp; in the 11 months between, the board goes back to 100.
    private static void eachYear() {
        DovetailRow shop = Shops.at(0);
        shop.weather(3, 180);
        shop.pass(3);
        for (int month = 3; month < 1200; month += 12) {
            Check.due("before the month " + month, shop.ofBoard(0, 0), 100);
            shop.pass(1);
            Check.due("after the month " + month, shop.ofBoard(0, 0), 120);
            shop.pass(month + 12 < 1200 ? 11 : 8);
        }
        Check.due("all months", shop.month(), 1200);
    }

    private static void inMonth() {
        Edge.range(Check.NO_SUCH, 0, 11, Shops::busy, (s, i) -> s.weather(i, 100));
    }

    private static void moisture() {
        Edge.range(Check.RANGE, 40, 300, Shops::busy, (s, i) -> s.weather(0, i));
        Edge.range(Check.RANGE, 40, 300, Shops::busy, (s, i) -> s.weather(11, i));
    }

    private static void theOneBefore() {
        for (int month = 0; month < 12; month++) {
            DovetailRow shop = new DovetailRow();
            Check.due("at first", shop.weather(month, 40), 100);
            Check.due("the least", shop.weather(month, 300), 40);
            Check.due("the most", shop.weather(month, 300), 300);
            Check.due("the same again", shop.weather(month, 41), 300);
            Check.due("of another month", shop.weather((month + 1) % 12, 40), 100);
        }
    }

    private static void noMonth() {
        for (int moisture = 40; moisture <= 300; moisture += 260) {
            int told = moisture;
            Edge.beyond(Check.NO_SUCH, 0, 11, Shops::busy, (s, i) -> s.weather(i, told));
        }
    }

    private static void outOfItsRange() {
        for (int month = 0; month < 12; month++) {
            int told = month;
            Edge.beyond(Check.RANGE, 40, 300, Shops::busy, (s, i) -> s.weather(told, i));
        }
        Check.refused("0", Check.RANGE, Shops::busy, s -> s.weather(0, 0));
    }
}
