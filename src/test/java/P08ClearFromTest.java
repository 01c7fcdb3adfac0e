/** Promise 8: clearFrom. */
public final class P08ClearFromTest {
    public static void main(String[] args) {
        Check.refused("board -1", Check.NO_SUCH, Shops::oneBoard, s -> s.clearFrom(-1, 100));
        Check.refused("board 1", Check.NO_SUCH, Shops::oneBoard, s -> s.clearFrom(1, 100));
        Check.refused("board 1, and a range", Check.NO_SUCH, Shops::oneBoard, s -> s.clearFrom(1, 9));
        Check.refused("length 9", Check.RANGE, Shops::oneBoard, s -> s.clearFrom(0, 9));
        Check.refused("length 30001", Check.RANGE, Shops::oneBoard, s -> s.clearFrom(0, 30001));

        knots();
        parts();
        both();
        byItsLengthAlone();
        Check.end();
    }

    // The knot is from 500 to 700, of 9000.
    private static void knots() {
        DovetailRow shop = Shops.oneBoard();
        Check.due("10", shop.clearFrom(0, 10), 0);
        Check.due("up to the knot", shop.clearFrom(0, 500), 0);
        Check.due("behind the knot", shop.clearFrom(0, 501), 700);
        Check.due("all behind the knot", shop.clearFrom(0, 8300), 700);
        Check.due("too long", shop.clearFrom(0, 8301), DovetailRow.NONE);
        Check.due("the longest", shop.clearFrom(0, 30000), DovetailRow.NONE);
        shop.knot(0, 650, 800);
        Check.due("behind two that touch", shop.clearFrom(0, 501), 800);
        DovetailRow whole = new DovetailRow();
        whole.board(DovetailRow.OAK, 0, 0, 100, 30000, 100);
        Check.due("all of a board", whole.clearFrom(0, 30000), 0);
        whole.knot(0, 0, 30000);
        Check.due("a knot all along", whole.clearFrom(0, 10), DovetailRow.NONE);
    }

    private static void parts() {
        DovetailRow shop = new DovetailRow();
        shop.board(DovetailRow.PINE, 0, 0, 100, 3000, 100);
        shop.cut(0, 2000, 500, 100, false);
        // taken up: 1970 to 2530
        Check.due("before it", shop.clearFrom(0, 1970), 0);
        Check.due("nowhere", shop.clearFrom(0, 1971), DovetailRow.NONE);
        shop.cut(0, 0, 100, 100, false);
        // taken up: to 130
        Check.due("between", shop.clearFrom(0, 1840), 130);
        Check.due("nowhere between", shop.clearFrom(0, 1841), DovetailRow.NONE);
        shop.cut(0, 1000, 500, 100, false);
        // taken up: 970 to 1530
        Check.due("the first gap", shop.clearFrom(0, 440), 130);
        Check.due("still the first gap", shop.clearFrom(0, 840), 130);
        Check.due("no gap", shop.clearFrom(0, 841), DovetailRow.NONE);
        shop.cut(0, 200, 500, 100, false);
        // taken up: 170 to 730, so 40 are left before it
        Check.due("the gap of 40", shop.clearFrom(0, 40), 130);
        Check.due("one more", shop.clearFrom(0, 41), 730);
        Check.due("the gap of 240", shop.clearFrom(0, 240), 730);
        Check.due("the gap of 440", shop.clearFrom(0, 241), 1530);
        Check.due("the last gap", shop.clearFrom(0, 441), 2530);
        Check.due("it can be cut", shop.cut(0, 2530, 470, 100, false), 4);
    }

    private static void both() {
        DovetailRow shop = new DovetailRow();
        shop.board(DovetailRow.PINE, 0, 0, 100, 3000, 100);
        shop.cut(0, 100, 100, 100, false);
        // taken up: 70 to 230
        shop.knot(0, 1000, 1100);
        shop.knot(0, 235, 240);
        Check.due("before all", shop.clearFrom(0, 70), 0);
        Check.due("behind the later knot", shop.clearFrom(0, 71), 240);
        Check.due("a knot comes later", shop.clearFrom(0, 761), 1100);
        shop.knot(0, 0, 65);
        Check.due("behind the part", shop.clearFrom(0, 10), 240);
        DovetailRow hidden = Shops.oneBoard();
        hidden.cut(0, 400, 500, 100, true);
        // the knot, 500 to 700, lies within what is taken up, 370 to 930
        Check.due("a hidden knot", hidden.clearFrom(0, 371), 930);
        hidden.cut(0, 930, 100, 100, false);
        Check.due("two parts, 30 apart", hidden.clearFrom(0, 371), 1060);
    }

    private static void byItsLengthAlone() {
        Check.due("with 40 parts", Shops.full().clearFrom(19, 500), 1530);
        DovetailRow blunt = new DovetailRow();
        blunt.board(DovetailRow.OAK, 0, 0, 100, 10000, 100);
        for (int i = 0; i < 11; i++) {
            blunt.cut(0, i * 100, 50, 50, false);
        }
        Check.due("with a blunt saw", blunt.clearFrom(0, 500), 1080);
    }
}
