/** "Terms", boards and parts, sentence by sentence. */
public final class EdgeTermsBoardsTest {
    private static final int PINE = DovetailRow.PINE;
    private static final int CHERRY = DovetailRow.CHERRY;
    private static final int MAPLE = DovetailRow.MAPLE;
    private static final int OAK = DovetailRow.OAK;
    private static final int[] HARD = {2, 4, 7, 9};

    public static void main(String[] args) {
        Sentence.holds("Boards are numbered from 0, at most 20", EdgeTermsBoardsTest::boards);
        Sentence.holds("measured as it comes", EdgeTermsBoardsTest::measuredAsItComes);
        Sentence.holds("All boards of a flitch are of one species", EdgeTermsBoardsTest::oneSpecies);
        Sentence.holds("and have different places.", EdgeTermsBoardsTest::differentPlaces);
        Sentence.holds("It has at most 4 knots", EdgeTermsBoardsTest::fourKnots);
        Sentence.holds("each from one place along it up to another one.", EdgeTermsBoardsTest::upTo);
        Sentence.holds("Boards have no coats", EdgeTermsBoardsTest::noCoats);
        Sentence.holds("what is cut off does not matter for what a board is.", EdgeTermsBoardsTest::cutOff);
        Sentence.holds("Parts are numbered from 0, at most 40.", EdgeTermsBoardsTest::parts);
        places();
        Sentence.holds("It is as moist as the board then", EdgeTermsBoardsTest::asMoist);
        Sentence.holds("and has up to 6 coats later.", EdgeTermsBoardsTest::sixCoats);
        edges();
        Sentence.end();
    }

    private static void places() {
        Sentence.holds("it takes up that, and 30 more on both sides", EdgeTermsBoardsTest::takesUp);
        Sentence.holds("of which no other part's length may have anything (so two lengths are 30 apart at least)",
                EdgeTermsBoardsTest::thirtyApart);
        Sentence.holds("it lies within the board's length itself.", EdgeTermsBoardsTest::withinTheBoard);
        Sentence.holds("It has no knot, of which something lies within its length", EdgeTermsBoardsTest::noKnot);
        Sentence.holds("but if it may be hidden.", EdgeTermsBoardsTest::hidden);
    }

    private static void edges() {
        Sentence.holds("The saw is the edge 0, the chisel the edge 1; each is 100 sharp at first.",
                EdgeTermsBoardsTest::sharpAtFirst);
        Sentence.holds("To cut wears the saw, to make a joint the chisel", EdgeTermsBoardsTest::wears);
        Sentence.holds("by how hard the species of the part (the first one that is told) is: PINE 2, CHERRY 4, "
                + "MAPLE 7, OAK 9", EdgeTermsBoardsTest::hardness);
        Sentence.holds("an edge has to be that sharp: the saw", EdgeTermsBoardsTest::thatSharpSaw);
        Sentence.holds("an edge has to be that sharp: the chisel", EdgeTermsBoardsTest::thatSharpChisel);
    }

    private static void boards() {
        DovetailRow shop = new DovetailRow();
        Check.refusedNow("none at first", Check.NO_SUCH, shop, s -> s.ofBoard(0, 0));
        for (int i = 0; i < 20; i++) {
            Check.due("its number", shop.board(PINE, i / 2, i % 2, 100 + i, 100, 100), i);
        }
        for (int i = 0; i < 20; i++) {
            Check.due("the board of that number", shop.ofBoard(i, 1), 100 + i);
        }
        Check.refusedNow("a 21st", Check.STATE, shop, s -> s.board(PINE, 0, 20, 100, 100, 100));
        Check.refusedNow("none has the number 20", Check.NO_SUCH, shop, s -> s.ofBoard(20, 0));
    }

    // A board that comes after a year is measured then, as moist as it is told, whatever the weather was.
    private static void measuredAsItComes() {
        DovetailRow shop = Shops.in(180);
        shop.pass(12);
        shop.board(OAK, 0, 0, 2000, 1000, 100);
        Check.due("how moist", shop.ofBoard(0, 0), 100);
        Check.due("how wide", shop.ofBoard(0, 1), 2000);
        shop.pass(1);
        Check.due("how moist then", shop.ofBoard(0, 0), 120);
        Check.due("how wide then", shop.ofBoard(0, 1), 2020);
    }

    private static DovetailRow flitches() {
        DovetailRow shop = new DovetailRow();
        shop.board(PINE, 0, 5, 500, 500, 100);
        shop.board(OAK, 9, 5, 500, 500, 100);
        return shop;
    }

    private static void oneSpecies() {
        for (int species = 0; species <= 3; species++) {
            int told = species;
            if (species == PINE) {
                Check.answers("the same", 2, EdgeTermsBoardsTest::flitches, s -> s.board(told, 0, 6, 500, 500, 100));
            } else {
                Check.refused("species " + species, Check.STATE, EdgeTermsBoardsTest::flitches,
                        s -> s.board(told, 0, 6, 500, 500, 100));
            }
            Check.answers("of an empty flitch", 2, EdgeTermsBoardsTest::flitches,
                    s -> s.board(told, 8, 6, 500, 500, 100));
        }
        Check.refused("PINE of flitch 9", Check.STATE, EdgeTermsBoardsTest::flitches,
                s -> s.board(PINE, 9, 6, 500, 500, 100));
    }

    private static void differentPlaces() {
        for (int place = 0; place <= 20; place++) {
            int told = place;
            if (place == 5) {
                Check.refused("its place", Check.STATE, EdgeTermsBoardsTest::flitches,
                        s -> s.board(PINE, 0, told, 500, 500, 100));
            } else {
                Check.answers("place " + place, 2, EdgeTermsBoardsTest::flitches,
                        s -> s.board(PINE, 0, told, 500, 500, 100));
            }
        }
        Check.answers("that place of another flitch", 2, EdgeTermsBoardsTest::flitches,
                s -> s.board(PINE, 1, 5, 500, 500, 100));
    }

    private static DovetailRow knots(int many) {
        DovetailRow shop = new DovetailRow();
        shop.board(OAK, 0, 0, 500, 1000, 100);
        shop.board(OAK, 0, 1, 500, 1000, 100);
        for (int i = 0; i < many; i++) {
            shop.knot(0, 100 * i, 100 * i + 10);
        }
        return shop;
    }

    private static void fourKnots() {
        Check.answers("none", 0, () -> knots(0), s -> s.ofBoard(0, 2));
        Check.answers("a fourth", 4, () -> knots(3), s -> s.knot(0, 900, 910));
        Check.refused("a fifth", Check.STATE, () -> knots(4), s -> s.knot(0, 900, 910));
        Check.answers("four", 4, () -> knots(4), s -> s.ofBoard(0, 2));
        Check.answers("the first of another board", 1, () -> knots(4), s -> s.knot(1, 900, 910));
    }

    // The last place of a knot is the one before the place up to which it is.
    private static void upTo() {
        Check.answers("before its first place", 0, () -> knots(2), s -> s.cut(0, 90, 10, 10, false));
        Check.refused("with its first place", Check.STATE, () -> knots(2), s -> s.cut(0, 91, 10, 10, false));
        Check.refused("with its last place", Check.STATE, () -> knots(2), s -> s.cut(0, 109, 10, 10, false));
        Check.answers("behind its last place", 0, () -> knots(2), s -> s.cut(0, 110, 10, 10, false));
    }

    // A board moves by a quarter of the difference, whatever coats its parts have.
    private static void noCoats() {
        DovetailRow shop = Shops.in(180);
        shop.board(OAK, 0, 0, 2000, 9000, 100);
        shop.cut(0, 0, 1000, 2000, false);
        for (int i = 0; i < 6; i++) {
            shop.coat(0);
        }
        shop.pass(1);
        Check.due("the board", shop.ofBoard(0, 0), 120);
        Check.due("its width", shop.ofBoard(0, 1), 2020);
        Check.due("the part", shop.ofPart(0, 2), 108);
    }

    private static void cutOff() {
        DovetailRow shop = new DovetailRow();
        shop.board(OAK, 0, 0, 2000, 9000, 100);
        shop.knot(0, 100, 200);
        shop.cut(0, 0, 8000, 1999, true);
        Check.due("how wide", shop.ofBoard(0, 1), 2000);
        Check.due("how moist", shop.ofBoard(0, 0), 100);
        Check.due("the knot", shop.ofBoard(0, 2), 1);
        Check.due("a part as wide as the board", shop.cut(0, 8030, 970, 2000, false), 1);
        Check.due("how wide still", shop.ofBoard(0, 1), 2000);
        Shops.setAir(shop, 180);
        shop.pass(1);
        Check.due("how moist then", shop.ofBoard(0, 0), 120);
        Check.due("how wide then", shop.ofBoard(0, 1), 2020);
    }

    private static void parts() {
        DovetailRow shop = new DovetailRow();
        Check.refusedNow("none of no board", Check.NO_SUCH, shop, s -> s.ofPart(0, 0));
        shop.board(PINE, 0, 0, 500, 5000, 100);
        shop.board(PINE, 0, 1, 500, 5000, 100);
        for (int i = 0; i < 40; i++) {
            Check.due("its number", shop.cut(i % 2, 100 * i, 50, 50, false), i);
        }
        for (int i = 0; i < 40; i++) {
            Check.due("the part of that number", shop.ofPart(i, 4), 100 * i);
            Check.due("the board of that", shop.ofPart(i, 0), i % 2);
        }
        shop.sharpen(0);
        Check.refusedNow("a 41st", Check.STATE, shop, s -> s.cut(0, 4000, 50, 50, false));
        Check.refusedNow("none has the number 40", Check.NO_SUCH, shop, s -> s.ofPart(40, 0));
    }

    /** Pine of 3000, with the part from 1000 up to 1500. */
    private static DovetailRow onePart() {
        DovetailRow shop = new DovetailRow();
        shop.board(PINE, 0, 0, 500, 3000, 100);
        shop.cut(0, 1000, 500, 500, false);
        return shop;
    }

    private static void takesUp() {
        Check.answers("a knot up to the 30 before", 1, EdgeTermsBoardsTest::onePart, s -> s.knot(0, 969, 970));
        Check.refused("a knot at the 30th before", Check.STATE, EdgeTermsBoardsTest::onePart,
                s -> s.knot(0, 970, 971));
        Check.refused("a knot at the 30th behind", Check.STATE, EdgeTermsBoardsTest::onePart,
                s -> s.knot(0, 1529, 1530));
        Check.answers("a knot behind the 30 behind", 1, EdgeTermsBoardsTest::onePart, s -> s.knot(0, 1530, 1531));
        Check.answers("970 are clear before", 0, EdgeTermsBoardsTest::onePart, s -> s.clearFrom(0, 970));
        Check.answers("1470 are clear behind", 1530, EdgeTermsBoardsTest::onePart, s -> s.clearFrom(0, 1470));
        Check.answers("no more", DovetailRow.NONE, EdgeTermsBoardsTest::onePart, s -> s.clearFrom(0, 1471));
    }

    private static void thirtyApart() {
        Check.answers("30 before", 1, EdgeTermsBoardsTest::onePart, s -> s.cut(0, 470, 500, 500, false));
        Check.refused("29 before", Check.STATE, EdgeTermsBoardsTest::onePart, s -> s.cut(0, 471, 500, 500, false));
        Check.answers("30 behind", 1, EdgeTermsBoardsTest::onePart, s -> s.cut(0, 1530, 500, 500, false));
        Check.refused("29 behind", Check.STATE, EdgeTermsBoardsTest::onePart, s -> s.cut(0, 1529, 500, 500, false));
        Check.refused("touching before", Check.STATE, EdgeTermsBoardsTest::onePart,
                s -> s.cut(0, 500, 500, 500, false));
        Check.refused("touching behind", Check.STATE, EdgeTermsBoardsTest::onePart,
                s -> s.cut(0, 1500, 500, 500, false));
        Check.refused("the same again", Check.STATE, EdgeTermsBoardsTest::onePart,
                s -> s.cut(0, 1000, 500, 500, false));
        Check.refused("within it", Check.STATE, EdgeTermsBoardsTest::onePart, s -> s.cut(0, 1200, 10, 10, false));
        Check.refused("all round it", Check.STATE, EdgeTermsBoardsTest::onePart, s -> s.cut(0, 0, 3000, 10, false));
        DovetailRow between = onePart();
        between.cut(0, 1570, 500, 500, false);
        Check.refusedNow("70 apart hold none", Check.STATE, between, s -> s.cut(0, 1530, 11, 500, false));
        Check.due("a third, 30 from both", between.cut(0, 1530, 10, 500, false), 2);
    }

    // The 30 beside a length may lie outside the board.
    private static void withinTheBoard() {
        Check.answers("from its start on", 1, EdgeTermsBoardsTest::onePart, s -> s.cut(0, 0, 10, 10, false));
        Check.answers("up to its end", 1, EdgeTermsBoardsTest::onePart, s -> s.cut(0, 2990, 10, 10, false));
        Check.refused("by 1 beyond", Check.STATE, EdgeTermsBoardsTest::onePart, s -> s.cut(0, 2991, 10, 10, false));
        Check.refused("by 1 too long", Check.STATE, EdgeTermsBoardsTest::onePart, s -> s.cut(0, 2990, 11, 10, false));
        Check.refused("from its end on", Check.STATE, EdgeTermsBoardsTest::onePart,
                s -> s.cut(0, 3000, 10, 10, false));
        Check.refused("from the farthest place on", Check.STATE, EdgeTermsBoardsTest::onePart,
                s -> s.cut(0, 30000, 30000, 10, false));
        DovetailRow shortest = new DovetailRow();
        shortest.board(PINE, 0, 0, 100, 100, 100);
        Check.refusedNow("longer than the shortest board", Check.STATE, shortest, s -> s.cut(0, 0, 101, 10, false));
        Check.due("as long as the shortest board", shortest.cut(0, 0, 100, 10, false), 0);
    }

    // knots(2): from 0 up to 10 and from 100 up to 110
    private static void noKnot() {
        Check.answers("between two that it touches", 0, () -> knots(2), s -> s.cut(0, 10, 90, 10, false));
        Check.refused("1 of the first", Check.STATE, () -> knots(2), s -> s.cut(0, 9, 90, 10, false));
        Check.refused("1 of the second", Check.STATE, () -> knots(2), s -> s.cut(0, 10, 91, 10, false));
        Check.refused("all of the second", Check.STATE, () -> knots(2), s -> s.cut(0, 90, 30, 10, false));
        Check.refused("both", Check.STATE, () -> knots(2), s -> s.cut(0, 0, 1000, 10, false));
        Check.refused("the last of four", Check.STATE, () -> knots(4), s -> s.cut(0, 305, 100, 10, false));
        DovetailRow within = new DovetailRow();
        within.board(PINE, 0, 0, 500, 1000, 100);
        within.knot(0, 100, 500);
        Check.refusedNow("within a knot", Check.STATE, within, s -> s.cut(0, 200, 10, 10, false));
        // A knot in the 30 beside a length is none of the part's.
        Check.due("a knot in the 30 beside", within.cut(0, 90, 10, 10, false), 0);
        Check.answers("where the other board has a knot", 0, () -> knots(4), s -> s.cut(1, 0, 1000, 10, false));
    }

    private static void hidden() {
        Check.answers("1 of the first", 0, () -> knots(2), s -> s.cut(0, 9, 90, 10, true));
        Check.answers("all four", 0, () -> knots(4), s -> s.cut(0, 0, 1000, 10, true));
        Check.answers("none", 0, () -> knots(0), s -> s.cut(0, 0, 1000, 10, true));
        DovetailRow shop = onePart();
        Check.refusedNow("hidden, but 29 apart", Check.STATE, shop, s -> s.cut(0, 1529, 10, 10, true));
        Check.refusedNow("hidden, but too wide", Check.STATE, shop, s -> s.cut(0, 1530, 10, 501, true));
    }

    private static void asMoist() {
        DovetailRow shop = Shops.in(180);
        shop.board(OAK, 0, 0, 2000, 9000, 100);
        shop.cut(0, 0, 100, 100, false);
        Check.due("as the board came", shop.ofPart(0, 2), 100);
        shop.pass(1);
        shop.cut(0, 1000, 100, 100, false);
        Check.due("as the board is now", shop.ofPart(1, 2), 120);
        shop.coat(1);
        shop.pass(1);
        Check.due("without a coat, as the board", shop.ofPart(0, 2), 135);
        Check.due("with a coat, slower", shop.ofPart(1, 2), 132);
    }

    private static void sixCoats() {
        DovetailRow shop = onePart();
        Check.due("none at first", shop.ofPart(0, 3), 0);
        for (int coats = 1; coats <= 6; coats++) {
            Check.due("coats", shop.coat(0), coats);
        }
        Check.refusedNow("a seventh", Check.STATE, shop, s -> s.coat(0));
        Check.due("six", shop.ofPart(0, 3), 6);
    }

    private static void sharpAtFirst() {
        DovetailRow shop = new DovetailRow();
        Check.due("the saw", shop.sharpen(0), 100);
        Check.due("the chisel", shop.sharpen(1), 100);
        DovetailRow used = Shops.oneJoint(MAPLE, 1000, DovetailRow.LONG, 100, 0, 100);
        // one cut of maple, one of pine; one joint of maple
        Check.due("edge 0 is the saw", used.sharpen(0), 91);
        Check.due("edge 1 is the chisel", used.sharpen(1), 93);
    }

    private static void wears() {
        DovetailRow shop = onePart();
        Check.due("the saw, by a cut", shop.sharpen(0), 98);
        Check.due("the chisel, not by a cut", shop.sharpen(1), 100);
        shop.cut(0, 0, 100, 100, false);
        shop.sharpen(0);
        shop.joint(DovetailRow.LONG, 0, 1, 100, 0);
        Check.due("the saw, not by a joint", shop.sharpen(0), 100);
        Check.due("the chisel, by a joint", shop.sharpen(1), 98);
        shop.knot(0, 2000, 2100);
        shop.coat(0);
        shop.glue(1);
        shop.pass(1);
        Check.due("the saw, by nothing else", shop.sharpen(0), 100);
        Check.due("the chisel, by nothing else", shop.sharpen(1), 100);
    }

    private static void hardness() {
        for (int species = 0; species <= 3; species++) {
            for (int other = 0; other <= 3; other++) {
                DovetailRow shop = new DovetailRow();
                shop.board(species, 0, 0, 500, 1000, 100);
                shop.board(other, 1, 0, 500, 1000, 100);
                shop.cut(0, 0, 100, 100, false);
                shop.cut(1, 0, 100, 100, false);
                shop.joint(DovetailRow.LONG, 0, 1, 100, 0);
                Check.due("the saw, by both", shop.sharpen(0), 100 - HARD[species] - HARD[other]);
                Check.due("the chisel, by the first one", shop.sharpen(1), 100 - HARD[species]);
            }
        }
    }

    /** A shop with a board and a part of each species, whose saw and chisel are sharp. */
    private static DovetailRow fourSpecies() {
        DovetailRow shop = new DovetailRow();
        for (int species = 0; species <= 3; species++) {
            shop.board(species, species, 0, 100, 10000, 100);
            shop.cut(species, 0, 50, 50, false);
        }
        shop.sharpen(0);
        return shop;
    }

    private static int place(DovetailRow shop, int board) {
        return shop.clearFrom(board, 50);
    }

    /** So many cuts of two species, one after the other. */
    private static DovetailRow sawnBy(int one, int ones, int other, int others) {
        DovetailRow shop = fourSpecies();
        for (int i = 0; i < ones + others; i++) {
            int board = i < ones ? one : other;
            shop.cut(board, place(shop, board), 50, 50, false);
        }
        return shop;
    }

    private static DovetailRow carvedBy(int one, int ones, int other, int others) {
        DovetailRow shop = fourSpecies();
        for (int i = 0; i < ones + others; i++) {
            int part = i < ones ? one : other;
            shop.joint(DovetailRow.LONG, part, part == 0 ? 1 : 0, 10, 0);
        }
        return shop;
    }

    private static void saws(int species, Check.Make asSharp, Check.Make lessSharp) {
        DovetailRow shop = asSharp.shop();
        Check.answers("how sharp by 1 less is", HARD[species] - 1, lessSharp, s -> s.sharpen(0));
        Check.due("just as sharp", shop.cut(species, place(shop, species), 50, 50, false) >= 0, true);
        Check.due("then it is blunt", shop.sharpen(0), 0);
        Check.refused("by 1 less sharp", Check.STATE, lessSharp,
                s -> s.cut(species, place(s, species), 50, 50, false));
    }

    // 100 less 98 is 2, less 99 is 1; 96: 4, 97: 3; 93: 7, 94: 6; 91: 9, 92: 8
    private static void thatSharpSaw() {
        saws(PINE, () -> sawnBy(MAPLE, 14, OAK, 0), () -> sawnBy(OAK, 11, PINE, 0));
        saws(CHERRY, () -> sawnBy(CHERRY, 24, OAK, 0), () -> sawnBy(OAK, 9, CHERRY, 4));
        saws(MAPLE, () -> sawnBy(OAK, 9, CHERRY, 3), () -> sawnBy(OAK, 10, CHERRY, 1));
        saws(OAK, () -> sawnBy(MAPLE, 13, OAK, 0), () -> sawnBy(CHERRY, 23, OAK, 0));
    }

    private static void chisels(int species, Check.Make asSharp, Check.Make lessSharp) {
        DovetailRow shop = asSharp.shop();
        Check.answers("how sharp by 1 less is", HARD[species] - 1, lessSharp, s -> s.sharpen(1));
        int other = species == 0 ? 1 : 0;
        Check.due("just as sharp", shop.joint(DovetailRow.LONG, species, other, 10, 0) >= 0, true);
        Check.due("then it is blunt", shop.sharpen(1), 0);
        Check.refused("by 1 less sharp", Check.STATE, lessSharp,
                s -> s.joint(DovetailRow.LONG, species, other, 10, 0));
    }

    private static void thatSharpChisel() {
        chisels(PINE, () -> carvedBy(MAPLE, 14, OAK, 0), () -> carvedBy(OAK, 11, PINE, 0));
        chisels(CHERRY, () -> carvedBy(CHERRY, 24, OAK, 0), () -> carvedBy(OAK, 9, CHERRY, 4));
        chisels(MAPLE, () -> carvedBy(OAK, 9, CHERRY, 3), () -> carvedBy(OAK, 10, CHERRY, 1));
        chisels(OAK, () -> carvedBy(MAPLE, 13, OAK, 0), () -> carvedBy(CHERRY, 23, OAK, 0));
    }
}
