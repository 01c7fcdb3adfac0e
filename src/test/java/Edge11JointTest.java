/** Promise 11, row by row: joint. */
public final class Edge11JointTest {
    private static final int OAK = DovetailRow.OAK;
    private static final int LONG = DovetailRow.LONG;
    private static final int CROSS = DovetailRow.CROSS;
    private static final int FLOAT = DovetailRow.FLOAT;

    public static void main(String[] args) {
        Sentence.holds("Makes a joint, DRY.", Edge11JointTest::makes);
        Sentence.holds("`kind`: LONG to FLOAT", Edge11JointTest::kind);
        Sentence.holds("`part`: a part", Edge11JointTest::aPart);
        Sentence.holds("`other`: another one", Edge11JointTest::anotherOne);
        Sentence.holds("`size`: 10 to 30000", Edge11JointTest::size);
        Sentence.holds("`tongue`: 1 to 200 for FLOAT", Edge11JointTest::tongue);
        Sentence.holds("otherwise 0", Edge11JointTest::otherwise0);
        Sentence.holds("Returns its number.", Edge11JointTest::number);
        Sentence.holds("Throws `IndexOutOfBoundsException` if there is no such part, of either",
                Edge11JointTest::noPart);
        Sentence.holds("Throws `IllegalArgumentException` if kind, size or tongue is out of its range",
                Edge11JointTest::outOfItsRange);
        Sentence.holds("Throws `IllegalArgumentException` if [..] both parts are the same", Edge11JointTest::theSame);
        Sentence.holds("Throws `IllegalStateException` if there are 30", Edge11JointTest::thirty);
        Sentence.holds("the size does not fit", Edge11JointTest::doesNotFit);
        Sentence.holds("or the chisel is not sharp enough", Edge11JointTest::blunt);
        Sentence.end();
    }

    private static void makes() {
        for (int kind = 0; kind <= 2; kind++) {
            DovetailRow shop = Shops.threeParts();
            shop.joint(kind, 2, 1, 1000, kind == FLOAT ? 1 : 0);
            int[] due = {DovetailRow.DRY, 1000, 0, 2, 1};
            for (int what = 0; what <= 4; what++) {
                Check.due("what " + what + " of kind " + kind, shop.ofJoint(0, what), due[what]);
            }
            Check.due("the chisel", shop.sharpen(1), 98);
        }
    }

    private static void kind() {
        Edge.ends(0, 2, Shops::threeParts, (s, i) -> s.joint(i, 0, 1, 1000, i == FLOAT ? 1 : 0));
        Edge.beyond(Check.RANGE, 0, 2, Shops::threeParts, (s, i) -> s.joint(i, 0, 1, 1000, 0));
        Edge.beyond(Check.RANGE, 0, 2, Shops::threeParts, (s, i) -> s.joint(i, 0, 1, 1000, 1));
    }

    private static void aPart() {
        Edge.range(Check.NO_SUCH, 0, 4, Shops::busy, (s, i) -> s.joint(LONG, i, i == 2 ? 3 : 2, 10, 0));
    }

    private static void anotherOne() {
        Edge.range(Check.NO_SUCH, 0, 4, Shops::busy, (s, i) -> s.joint(LONG, i == 2 ? 3 : 2, i, 10, 0));
    }

    private static void size() {
        Edge.range(Check.RANGE, 10, 30000, () -> Shops.longJoints(6), (s, i) -> s.joint(LONG, 0, 1, i, 0));
        Edge.beyond(Check.RANGE, 10, 30000, Shops::threeParts, (s, i) -> s.joint(CROSS, 0, 1, i, 0));
        Edge.beyond(Check.RANGE, 10, 30000, Shops::threeParts, (s, i) -> s.joint(FLOAT, 0, 1, i, 200));
        Check.answers("CROSS of 10", 0, Shops::threeParts, s -> s.joint(CROSS, 0, 1, 10, 0));
        Check.refused("CROSS of 30000", Check.STATE, Shops::threeParts, s -> s.joint(CROSS, 0, 1, 30000, 0));
        Check.answers("FLOAT of 10", 0, Edge11JointTest::narrow, s -> s.joint(FLOAT, 0, 1, 10, 1));
        Check.refused("FLOAT of 30000", Check.STATE, Shops::threeParts, s -> s.joint(FLOAT, 0, 1, 30000, 200));
        Check.refused("0", Check.RANGE, Shops::threeParts, s -> s.joint(LONG, 0, 1, 0, 0));
    }

    /** Two oak parts of 10 by 10. */
    private static DovetailRow narrow() {
        DovetailRow shop = new DovetailRow();
        shop.board(OAK, 0, 0, 100, 100, 300);
        shop.cut(0, 0, 10, 10, false);
        shop.cut(0, 50, 10, 10, false);
        return shop;
    }

    private static void tongue() {
        Edge.range(Check.RANGE, 1, 200, Shops::threeParts, (s, i) -> s.joint(FLOAT, 0, 1, 1000, i));
        Check.refused("-200", Check.RANGE, Shops::threeParts, s -> s.joint(FLOAT, 0, 1, 1000, -200));
    }

    private static void otherwise0() {
        for (int kind = LONG; kind <= CROSS; kind++) {
            int told = kind;
            Edge.range(Check.RANGE, 0, 0, Shops::threeParts, (s, i) -> s.joint(told, 0, 1, 1000, i));
            Check.refused("200", Check.RANGE, Shops::threeParts, s -> s.joint(told, 0, 1, 1000, 200));
        }
    }

    private static void number() {
        Check.answers("the first", 0, Shops::threeParts, s -> s.joint(LONG, 0, 1, 10, 0));
        Check.answers("the eighth", 7, Shops::busy, s -> s.joint(LONG, 0, 1, 10, 0));
        DovetailRow shop = Shops.busy();
        Check.refusedNow("a refused one", Check.STATE, shop, s -> s.joint(LONG, 0, 1, 1001, 0));
        Check.due("takes no number", shop.joint(LONG, 0, 1, 10, 0), 7);
        Check.answers("the last", 29, () -> joints(29), s -> s.joint(LONG, 0, 1, 10, 0));
    }

    private static void noPart() {
        Check.refused("none of none", Check.NO_SUCH, Shops::oneBoard, s -> s.joint(LONG, 0, 1, 10, 0));
        Edge.beyond(Check.NO_SUCH, 0, 2, Shops::threeParts, (s, i) -> s.joint(LONG, i, 0, 10, 0));
        Edge.beyond(Check.NO_SUCH, 0, 2, Shops::threeParts, (s, i) -> s.joint(LONG, 0, i, 10, 0));
        Check.refused("neither", Check.NO_SUCH, Shops::threeParts, s -> s.joint(LONG, 3, -1, 10, 0));
        Check.refused("with itself", Check.NO_SUCH, Shops::threeParts, s -> s.joint(LONG, 3, 3, 10, 0));
    }

    private static void outOfItsRange() {
        Check.refused("kind below", Check.RANGE, Shops::threeParts, s -> s.joint(-1, 0, 1, 10, 0));
        Check.refused("kind above", Check.RANGE, Shops::threeParts, s -> s.joint(3, 0, 1, 10, 0));
        Check.refused("kind above, with a tongue", Check.RANGE, Shops::threeParts, s -> s.joint(3, 0, 1, 1000, 1));
        Check.refused("size below", Check.RANGE, Shops::threeParts, s -> s.joint(LONG, 0, 1, 9, 0));
        Check.refused("size above", Check.RANGE, () -> Shops.longJoints(6), s -> s.joint(LONG, 0, 1, 30001, 0));
        Check.refused("tongue below", Check.RANGE, Shops::threeParts, s -> s.joint(FLOAT, 0, 1, 1000, 0));
        Check.refused("tongue above", Check.RANGE, Shops::threeParts, s -> s.joint(FLOAT, 0, 1, 1000, 201));
        Check.refused("all at the greatest int", Check.RANGE, Shops::threeParts,
                s -> s.joint(Integer.MAX_VALUE, 0, 1, Integer.MAX_VALUE, Integer.MAX_VALUE));
        Check.refused("all at the least int", Check.RANGE, Shops::threeParts,
                s -> s.joint(Integer.MIN_VALUE, 0, 1, Integer.MIN_VALUE, Integer.MIN_VALUE));
    }

    private static void theSame() {
        for (int part = 0; part < 3; part++) {
            int same = part;
            Check.refused("LONG", Check.RANGE, Shops::threeParts, s -> s.joint(LONG, same, same, 10, 0));
            Check.refused("CROSS", Check.RANGE, Shops::threeParts, s -> s.joint(CROSS, same, same, 10, 0));
            Check.refused("FLOAT", Check.RANGE, Shops::threeParts, s -> s.joint(FLOAT, same, same, 1000, 1));
        }
    }

    /** So many joints of two pine parts, and a sharp chisel. */
    private static DovetailRow joints(int many) {
        DovetailRow shop = Shops.threeParts();
        for (int i = 0; i < many; i++) {
            shop.joint(LONG, 0, 1, 10, 0);
        }
        shop.sharpen(1);
        return shop;
    }

    private static void thirty() {
        Check.answers("the 30th", 29, () -> joints(29), s -> s.joint(CROSS, 1, 2, 10, 0));
        for (int kind = 0; kind <= 2; kind++) {
            int told = kind;
            Check.refused("the 31st", Check.STATE, () -> joints(30),
                    s -> s.joint(told, 1, 2, 1000, told == FLOAT ? 1 : 0));
        }
    }

    // The parts are 1000 by 1000; then oak of 10, which is 9 wide when it is dry.
    private static void doesNotFit() {
        Check.answers("LONG of 1000", 0, Shops::threeParts, s -> s.joint(LONG, 0, 1, 1000, 0));
        Check.refused("LONG of 1001", Check.STATE, Shops::threeParts, s -> s.joint(LONG, 0, 1, 1001, 0));
        Check.answers("CROSS of 1000", 0, Shops::threeParts, s -> s.joint(CROSS, 0, 1, 1000, 0));
        Check.refused("CROSS of 1001", Check.STATE, Shops::threeParts, s -> s.joint(CROSS, 0, 1, 1001, 0));
        Check.refused("FLOAT of 999", Check.STATE, Shops::threeParts, s -> s.joint(FLOAT, 0, 1, 999, 7));
        Check.answers("FLOAT of 1000", 0, Shops::threeParts, s -> s.joint(FLOAT, 0, 1, 1000, 7));
        Check.answers("FLOAT of 1014", 0, Shops::threeParts, s -> s.joint(FLOAT, 0, 1, 1014, 7));
        Check.refused("FLOAT of 1015", Check.STATE, Shops::threeParts, s -> s.joint(FLOAT, 0, 1, 1015, 7));
        DovetailRow dry = narrow();
        dry.pass(24);
        Check.due("how wide", dry.ofPart(0, 1), 9);
        Check.refusedNow("CROSS of 10", Check.STATE, dry, s -> s.joint(CROSS, 0, 1, 10, 0));
        Check.due("FLOAT of 10", dry.joint(FLOAT, 0, 1, 10, 1), 0);
        Check.refusedNow("FLOAT of 12", Check.STATE, dry, s -> s.joint(FLOAT, 0, 1, 12, 1));
        Check.due("LONG of 10", dry.joint(LONG, 0, 1, 10, 0), 1);
    }

    private static DovetailRow carved(int species, int many) {
        DovetailRow shop = Shops.oneJoint(species, 1000, LONG, 10, 0, 100);
        for (int i = 1; i < many; i++) {
            shop.joint(LONG, 0, 1, 10, 0);
        }
        return shop;
    }

    private static void blunt() {
        int[] joints = {30, 25, 14, 11};
        for (int species = 1; species <= 3; species++) {
            int told = species;
            int many = joints[species];
            Check.answers("the last", many - 1, () -> carved(told, many - 1), s -> s.joint(LONG, 0, 1, 10, 0));
            Check.refused("one more", Check.STATE, () -> carved(told, many), s -> s.joint(LONG, 0, 1, 10, 0));
        }
        // 11 of oak leave 1: that is not enough for the pine part either.
        Check.refused("pine", Check.STATE, () -> carved(OAK, 11), s -> s.joint(LONG, 1, 0, 10, 0));
        Check.answers("pine, with 10", 10, () -> carved(OAK, 10), s -> s.joint(LONG, 1, 0, 10, 0));
        Check.answers("sharpened", 111, () -> carved(OAK, 11), s -> {
            int before = 100 * s.sharpen(1);
            return before + s.joint(LONG, 0, 1, 10, 0);
        });
    }
}
