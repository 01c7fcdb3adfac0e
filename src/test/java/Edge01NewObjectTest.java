/** Promise 1, row by row: a new object. */
public final class Edge01NewObjectTest {
    public static void main(String[] args) {
        Sentence.holds("No boards", Edge01NewObjectTest::noBoards);
        Sentence.holds("No [..] parts", Edge01NewObjectTest::noParts);
        Sentence.holds("No [..] joints", Edge01NewObjectTest::noJoints);
        Sentence.holds("sharp edges", Edge01NewObjectTest::sharpEdges);
        Sentence.holds("the month 0", Edge01NewObjectTest::theMonth);
        Sentence.holds("A new object: whatever another one has", Edge01NewObjectTest::apart);
        Sentence.end();
    }

    private static void none(String what, Check.Call call) {
        Check.refused(what, Check.NO_SUCH, Shops::empty, call);
    }

    private static void noBoards() {
        none("knot", s -> s.knot(0, 0, 1));
        none("cut", s -> s.cut(0, 0, 10, 10, true));
        none("clearFrom", s -> s.clearFrom(0, 10));
        none("ofBoard", s -> s.ofBoard(0, 0));
        Check.answers("the first one", 0, Shops::empty, s -> s.board(DovetailRow.PINE, 0, 0, 100, 100, 100));
    }

    private static void noParts() {
        none("coat", s -> s.coat(0));
        none("match", s -> s.match(0, 1));
        none("joint", s -> s.joint(DovetailRow.LONG, 0, 1, 10, 0));
        none("ofPart", s -> s.ofPart(0, 0));
        Check.answers("the first one", 0, Shops::oneBoard, s -> s.cut(0, 0, 10, 10, false));
    }

    private static void noJoints() {
        none("need", s -> s.need(0, 0));
        none("repair", s -> s.repair(0));
        none("breaksIn", s -> s.breaksIn(0, 1));
        none("ofJoint", s -> s.ofJoint(0, 0));
        Check.refused("a set of none", Check.RANGE, Shops::empty, s -> s.glue(0));
        Check.refused("a set of the first", Check.RANGE, Shops::empty, s -> s.glue(1));
        Check.answers("none would break", 0, Shops::empty, s -> s.through(24));
        Check.answers("none breaks", 0, Shops::empty, s -> s.pass(24));
        Check.answers("the first one", 0, Shops::threeParts, s -> s.joint(DovetailRow.LONG, 0, 1, 10, 0));
    }

    private static void sharpEdges() {
        Check.answers("the saw", 100, Shops::empty, s -> s.sharpen(0));
        Check.answers("the chisel", 100, Shops::empty, s -> s.sharpen(1));
    }

    private static void theMonth() {
        Check.answers("month", 0, Shops::empty, s -> s.month());
    }

    private static void apart() {
        Shops.busy();
        Shops.at(1200);
        Shops.full();
        Check.due("what differs from an earlier one", Tale.difference(Shops::empty, DovetailRow::new), "");
        Check.answers("month", 0, Shops::empty, s -> s.month());
        Check.answers("weather", 100, Shops::empty, s -> s.weather(2, 40));
        Check.answers("clamps", 6, Shops::empty, s -> s.clamps(1));
        none("ofBoard", s -> s.ofBoard(0, 0));
    }
}
