/** Promise 3, row by row: pass. */
public final class Edge03PassTest {
    private static final int ALL = (1 << 30) - 1;

    public static void main(String[] args) {
        Sentence.holds("Lets months go by.", Edge03PassTest::goBy);
        Sentence.holds("`months`: 1 to 24", Edge03PassTest::months);
        Sentence.holds("Returns how many joints broke by that.", Edge03PassTest::howMany);
        Sentence.holds("Throws `IllegalArgumentException` if months is out of its range",
                Edge03PassTest::outOfItsRange);
        Sentence.holds("Throws `IllegalStateException` if the month would be above 1200", Edge03PassTest::above1200);
        Sentence.end();
    }

    // So many months at once are as many, one by one.
    private static void goBy() {
        for (int months = 1; months <= 24; months++) {
            int many = months;
            Check.due("what " + months + " at once leave", Tale.difference(() -> passed(many), () -> oneByOne(many)),
                    "");
            Check.due("the month", passed(months).month(), 3 + months);
        }
    }

    private static DovetailRow passed(int months) {
        DovetailRow shop = Shops.busy();
        shop.pass(months);
        return shop;
    }

    private static DovetailRow oneByOne(int months) {
        DovetailRow shop = Shops.busy();
        for (int i = 0; i < months; i++) {
            shop.pass(1);
        }
        return shop;
    }

    private static void months() {
        Edge.range(Check.RANGE, 1, 24, Shops::busy, (s, i) -> s.pass(i));
        Edge.range(Check.RANGE, 1, 24, Shops::empty, (s, i) -> s.pass(i));
    }

    private static void howMany() {
        Check.answers("none", 0, Shops::empty, s -> s.pass(1));
        Check.answers("none of the DRY ones", 0, Shops::threeJoints, s -> s.pass(24));
        Check.answers("none in the first month", 0, Shops::glued, s -> s.pass(1));
        Check.answers("one in two months", 1, Shops::glued, s -> s.pass(2));
        Check.answers("both in three", 2, Shops::glued, s -> s.pass(3));
        Check.answers("both in all, each once", 2, Shops::glued, s -> s.pass(24));
        Check.answers("all 30", 30, () -> Shops.thirtyGlued(ALL), s -> s.pass(1));
        Check.answers("none is left", 0, () -> Shops.thirtyGlued(ALL), s -> s.pass(1) - 30 + s.pass(24));
    }

    private static void outOfItsRange() {
        for (int month : new int[] {0, 1199, 1200}) {
            Edge.beyond(Check.RANGE, 1, 24, () -> Shops.at(month), (s, i) -> s.pass(i));
            Check.refused("-24", Check.RANGE, () -> Shops.at(month), s -> s.pass(-24));
        }
    }

    // From each of the last 24 months on, just so many may go by.
    private static void above1200() {
        for (int left = 1; left <= 24; left++) {
            int months = left;
            Check.answers("up to 1200, by " + months, 0, () -> Shops.at(1200 - months), s -> s.pass(months));
            if (months < 24) {
                Check.refused("up to 1201, by " + (months + 1), Check.STATE, () -> Shops.at(1200 - months),
                        s -> s.pass(months + 1));
                Check.refused("24 in " + (1200 - months), Check.STATE, () -> Shops.at(1200 - months),
                        s -> s.pass(24));
            }
        }
        Check.refused("1 in 1200", Check.STATE, () -> Shops.at(1200), s -> s.pass(1));
        Check.refused("24 in 1200", Check.STATE, () -> Shops.at(1200), s -> s.pass(24));
        Check.answers("then it is 1200", 1200, () -> Shops.at(1199), s -> s.pass(1) + s.month());
    }
}
