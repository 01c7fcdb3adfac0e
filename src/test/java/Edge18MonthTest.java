/** Promise 18, row by row: month. */
public final class Edge18MonthTest {
    public static void main(String[] args) {
        Sentence.holds("Returns the month that goes by next.", Edge18MonthTest::next);
        Sentence.holds("Returns the month that goes by next: from 0 to 1200", Edge18MonthTest::from0To1200);
        Sentence.end();
    }

    private static void next() {
        Check.answers("at first", 0, Shops::empty, s -> s.month());
        for (int months = 1; months <= 24; months++) {
            int many = months;
            Check.answers("after " + months, months, () -> Shops.later(Shops.glued(), many), s -> s.month());
        }
        DovetailRow shop = Shops.at(7);
        shop.through(24);
        shop.breaksIn(0, 24);
        shop.weather(7, 300);
        Check.due("only months that go by count", shop.month(), 7);
        Check.refusedNow("25 do not go by", Check.RANGE, shop, s -> s.pass(25));
        Check.due("after that", shop.month(), 7);
    }

    private static void from0To1200() {
        Check.answers("the last but one", 1199, () -> Shops.at(1199), s -> s.month());
        Check.answers("the last", 1200, () -> Shops.at(1200), s -> s.month());
        DovetailRow shop = Shops.at(1199);
        Check.refusedNow("2 more do not go by", Check.STATE, shop, s -> s.pass(2));
        Check.due("none of them", shop.month(), 1199);
        shop.pass(1);
        Check.refusedNow("no more go by", Check.STATE, shop, s -> s.pass(1));
        Check.due("the last still", shop.month(), 1200);
    }
}
