/** Promise 4, row by row: board. */
public final class Edge04BoardTest {
    private static final int PINE = DovetailRow.PINE;

    public static void main(String[] args) {
        Sentence.holds("Takes a board.", Edge04BoardTest::takes);
        Sentence.holds("`species`: PINE to OAK", Edge04BoardTest::species);
        Sentence.holds("`flitch`: 0 to 9", Edge04BoardTest::flitch);
        Sentence.holds("`place`: 0 to 20", Edge04BoardTest::place);
        Sentence.holds("`width`: 100 to 6000", Edge04BoardTest::width);
        Sentence.holds("`length`: 100 to 30000", Edge04BoardTest::length);
        Sentence.holds("`moisture`: 40 to 300", Edge04BoardTest::moisture);
        Sentence.holds("Returns its number.", Edge04BoardTest::number);
        Sentence.holds("Throws `IllegalArgumentException` if an argument is out of its range",
                Edge04BoardTest::outOfItsRange);
        throwsState();
        Sentence.end();
    }

    private static void throwsState() {
        Sentence.holds("Throws `IllegalStateException` if there are 20", Edge04BoardTest::twenty);
        Sentence.holds("Throws `IllegalStateException` if [..] one of the flitch has that place",
                Edge04BoardTest::thatPlace);
        Sentence.holds("Throws `IllegalStateException` if [..] one of the flitch [..] is of another species",
                Edge04BoardTest::anotherSpecies);
    }

    private static void takes() {
        DovetailRow shop = new DovetailRow();
        shop.board(PINE, 0, 0, 100, 100, 40);
        shop.board(DovetailRow.OAK, 9, 20, 6000, 30000, 300);
        int[][] due = {{40, 100, 0}, {300, 6000, 0}};
        for (int board = 0; board < 2; board++) {
            for (int what = 0; what <= 2; what++) {
                Check.due("what " + what + " of " + board, shop.ofBoard(board, what), due[board][what]);
            }
        }
        Check.due("all the least length", shop.clearFrom(0, 100), 0);
        Check.due("no more than the least length", shop.clearFrom(0, 101), DovetailRow.NONE);
        Check.due("all the greatest length", shop.clearFrom(1, 30000), 0);
    }

    private static void species() {
        Edge.range(Check.RANGE, 0, 3, Shops::busy, (s, i) -> s.board(i, 1, 1, 500, 500, 100));
    }

    private static void flitch() {
        Edge.range(Check.RANGE, 0, 9, Shops::busy, (s, i) -> s.board(PINE, i, 1, 500, 500, 100));
    }

    private static void place() {
        Edge.range(Check.RANGE, 0, 20, Shops::busy, (s, i) -> s.board(PINE, 1, i, 500, 500, 100));
    }

    private static void width() {
        Edge.range(Check.RANGE, 100, 6000, Shops::busy, (s, i) -> s.board(PINE, 1, 1, i, 500, 100));
    }

    private static void length() {
        Edge.range(Check.RANGE, 100, 30000, Shops::busy, (s, i) -> s.board(PINE, 1, 1, 500, i, 100));
    }

    private static void moisture() {
        Edge.range(Check.RANGE, 40, 300, Shops::busy, (s, i) -> s.board(PINE, 1, 1, 500, 500, i));
    }

    private static void number() {
        Check.answers("the first", 0, Shops::empty, s -> s.board(PINE, 1, 1, 500, 500, 100));
        Check.answers("the fourth", 3, Shops::busy, s -> s.board(PINE, 1, 1, 500, 500, 100));
        DovetailRow shop = Shops.busy();
        Check.refusedNow("a refused one", Check.STATE, shop, s -> s.board(PINE, 2, 0, 500, 500, 100));
        Check.due("takes no number", shop.board(PINE, 1, 1, 500, 500, 100), 3);
        Check.answers("the last", 19, Edge04BoardTest::nineteen, s -> s.board(PINE, 0, 19, 500, 500, 100));
    }

    private static void outOfItsRange() {
        int[] least = {0, 0, 0, 100, 100, 40};
        int[] most = {3, 9, 20, 6000, 30000, 300};
        for (int i = 0; i < 6; i++) {
            int[] low = least.clone();
            int[] high = most.clone();
            low[i]--;
            high[i]++;
            Check.refused("argument " + i + " below, the others at the least", Check.RANGE, Shops::empty,
                    s -> s.board(low[0], low[1], low[2], low[3], low[4], low[5]));
            Check.refused("argument " + i + " above, the others at the most", Check.RANGE, Shops::empty,
                    s -> s.board(high[0], high[1], high[2], high[3], high[4], high[5]));
        }
    }

    private static DovetailRow nineteen() {
        DovetailRow shop = new DovetailRow();
        for (int i = 0; i < 19; i++) {
            shop.board(PINE, 0, i, 500, 500, 100);
        }
        return shop;
    }

    private static DovetailRow all() {
        DovetailRow shop = nineteen();
        shop.board(PINE, 0, 19, 500, 500, 100);
        return shop;
    }

    private static void twenty() {
        Check.answers("the 20th", 19, Edge04BoardTest::nineteen, s -> s.board(PINE, 0, 20, 500, 500, 100));
        Check.refused("the 21st, of that flitch", Check.STATE, Edge04BoardTest::all,
                s -> s.board(PINE, 0, 20, 500, 500, 100));
        Check.refused("the 21st, of another flitch", Check.STATE, Edge04BoardTest::all,
                s -> s.board(DovetailRow.OAK, 9, 0, 500, 500, 100));
    }

    private static void thatPlace() {
        for (int place = 0; place < 20; place++) {
            int told = place;
            Check.refused("place " + place, Check.STATE, Edge04BoardTest::nineteen,
                    s -> s.board(PINE, 0, told == 19 ? 0 : told, 500, 500, 100));
            Check.answers("of another flitch", 19, Edge04BoardTest::nineteen,
                    s -> s.board(PINE, 9, told, 500, 500, 100));
        }
    }

    private static void anotherSpecies() {
        for (int species = 1; species <= 3; species++) {
            int told = species;
            Check.refused("species " + species, Check.STATE, Edge04BoardTest::nineteen,
                    s -> s.board(told, 0, 20, 500, 500, 100));
            Check.answers("of another flitch", 19, Edge04BoardTest::nineteen,
                    s -> s.board(told, 1, 20, 500, 500, 100));
        }
    }
}
