/** Promise 10, row by row: match. */
public final class Edge10MatchTest {
    public static void main(String[] args) {
        Sentence.holds("BOARD if they are of one", Edge10MatchTest::ofOneBoard);
        Sentence.holds("BOOK if they are of boards of one flitch whose places differ by 1", Edge10MatchTest::book);
        Sentence.holds("FLITCH if they are of other boards of one flitch", Edge10MatchTest::flitch);
        Sentence.holds("otherwise STRANGE.", Edge10MatchTest::strange);
        Sentence.holds("`part`: a part", Edge10MatchTest::aPart);
        Sentence.holds("`other`: another one", Edge10MatchTest::anotherOne);
        Sentence.holds("Returns STRANGE to BOARD.", Edge10MatchTest::strangeToBoard);
        Sentence.holds("Throws `IndexOutOfBoundsException` if there is no such part, of either",
                Edge10MatchTest::noPart);
        Sentence.holds("Throws `IllegalArgumentException` if both are the same", Edge10MatchTest::theSame);
        Sentence.end();
    }

    /** Two boards of flitches and places, with a part of each. */
    private static DovetailRow two(int flitch, int place, int otherFlitch, int otherPlace) {
        DovetailRow shop = new DovetailRow();
        shop.board(DovetailRow.OAK, flitch, place, 500, 500, 100);
        shop.board(DovetailRow.OAK, otherFlitch, otherPlace, 500, 500, 100);
        shop.cut(0, 0, 100, 100, false);
        shop.cut(1, 0, 100, 100, false);
        return shop;
    }

    private static void either(String what, int due, int[] a) {
        Check.answers(what, due, () -> two(a[0], a[1], a[2], a[3]), s -> s.match(0, 1));
        Check.answers(what + ", the other way", due, () -> two(a[0], a[1], a[2], a[3]), s -> s.match(1, 0));
    }

    private static void ofOneBoard() {
        for (int part = 0; part < 3; part++) {
            for (int other = 0; other < 3; other++) {
                int one = part;
                int another = other;
                if (part != other) {
                    Check.answers("of one", DovetailRow.BOARD, Shops::threeParts, s -> s.match(one, another));
                }
            }
        }
    }

    private static void book() {
        either("0 and 1", DovetailRow.BOOK, new int[] {4, 0, 4, 1});
        either("1 and 0", DovetailRow.BOOK, new int[] {4, 1, 4, 0});
        either("19 and 20", DovetailRow.BOOK, new int[] {9, 19, 9, 20});
        either("20 and 19", DovetailRow.BOOK, new int[] {0, 20, 0, 19});
    }

    private static void flitch() {
        either("by 2", DovetailRow.FLITCH, new int[] {4, 0, 4, 2});
        either("by -2", DovetailRow.FLITCH, new int[] {4, 20, 4, 18});
        either("by 20: the places don't go round", DovetailRow.FLITCH, new int[] {4, 0, 4, 20});
    }

    private static void strange() {
        either("of one place", DovetailRow.STRANGE, new int[] {4, 0, 5, 0});
        either("places by 1", DovetailRow.STRANGE, new int[] {4, 0, 5, 1});
        either("the last place and the first", DovetailRow.STRANGE, new int[] {0, 20, 1, 0});
        either("the flitches farthest apart", DovetailRow.STRANGE, new int[] {0, 3, 9, 4});
    }

    private static void aPart() {
        Edge.ends(0, 4, Shops::busy, (s, i) -> s.match(i, 2));
        Edge.ends(0, 39, Shops::full, (s, i) -> s.match(i, 2));
        Edge.beyond(Check.NO_SUCH, 0, 4, Shops::busy, (s, i) -> s.match(i, 2));
    }

    private static void anotherOne() {
        Edge.ends(0, 4, Shops::busy, (s, i) -> s.match(2, i));
        Edge.ends(0, 39, Shops::full, (s, i) -> s.match(2, i));
        Edge.beyond(Check.NO_SUCH, 0, 4, Shops::busy, (s, i) -> s.match(2, i));
    }

    // Parts 0 to 2 are of the place 0, part 3 of the place 1, part 4 of another flitch.
    private static void strangeToBoard() {
        Check.answers("BOARD", 3, Shops::busy, s -> s.match(0, 2));
        Check.answers("BOOK", 2, Shops::busy, s -> s.match(0, 3));
        Check.answers("FLITCH", 1, Shops::full, s -> s.match(0, 39));
        Check.answers("STRANGE", 0, Shops::busy, s -> s.match(0, 4));
    }

    private static void noPart() {
        Check.refused("none of none", Check.NO_SUCH, Shops::oneBoard, s -> s.match(0, 1));
        Edge.beyond(Check.NO_SUCH, 0, 39, Shops::full, (s, i) -> s.match(i, 0));
        Edge.beyond(Check.NO_SUCH, 0, 39, Shops::full, (s, i) -> s.match(39, i));
        Check.refused("neither", Check.NO_SUCH, Shops::busy, s -> s.match(5, -1));
    }

    private static void theSame() {
        for (int part : new int[] {0, 1, 39}) {
            Check.refused("part " + part, Check.RANGE, Shops::full, s -> s.match(part, part));
        }
        Check.refused("that there is not", Check.NO_SUCH, Shops::full, s -> s.match(40, 40));
    }
}
