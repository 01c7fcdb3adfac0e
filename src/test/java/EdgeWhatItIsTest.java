/** "What it is": an object is used for at most 512 calls after it has been made. */
public final class EdgeWhatItIsTest {
    private static final int CALLS = 512;

    // Two oak parts of 1000 by 1000, joint 0 CROSS and joint 1 LONG, DRY.
    private static final Check.Call[] BUILD = {
        s -> s.board(DovetailRow.OAK, 0, 0, 2000, 5000, 100),
        s -> s.cut(0, 0, 1000, 1000, false),
        s -> s.cut(0, 2000, 1000, 1000, false),
        s -> s.joint(DovetailRow.CROSS, 0, 1, 1000, 0),
        s -> s.joint(DovetailRow.LONG, 1, 0, 1000, 0),
    };
    private static final Check.Call GLUE = s -> s.glue(1);
    private static final Check.Call DAMP = s -> s.weather(0, 300);
    private static final Check.Call PASS = s -> s.pass(1);

    public static void main(String[] args) {
        Sentence.holds("An object is used for at most 512 calls: the 512th answers",
                EdgeWhatItIsTest::theLastAnswer);
        Sentence.holds("An object is used for at most 512 calls: the 512th is refused as any other",
                EdgeWhatItIsTest::theLastRefusal);
        Sentence.holds("An object is used for at most 512 calls: with all that there may be",
                EdgeWhatItIsTest::allThatThereMayBe);
        Sentence.end();
    }

    /** A shop that was made, built, and asked, by 511 calls. */
    private static DovetailRow used(Check.Call... before) {
        DovetailRow shop = new DovetailRow();
        for (Check.Call call : BUILD) {
            call.on(shop);
        }
        for (Check.Call call : before) {
            call.on(shop);
        }
        for (int i = BUILD.length + before.length; i < CALLS - 1; i++) {
            shop.month();
        }
        return shop;
    }

    private static void last(String what, int want, Check.Call call, Check.Call... before) {
        Check.answers("the 512th, " + what, want, () -> used(before), call);
    }

    // At 300, the oak is 150 moist after a month, and 1025 wide: the CROSS breaks.
    private static void theLastAnswer() {
        last("weather", 100, s -> s.weather(11, 300));
        last("pass", 1, s -> s.pass(24), GLUE, DAMP);
        last("board", 1, s -> s.board(DovetailRow.PINE, 1, 0, 100, 100, 40));
        last("knot", 1, s -> s.knot(0, 4000, 4001));
        last("cut", 2, s -> s.cut(0, 4000, 1000, 2000, false));
        last("sharpen", 82, s -> s.sharpen(0));
        last("clearFrom", 3030, s -> s.clearFrom(0, 1000));
        last("coat", 1, s -> s.coat(1));
        last("match", DovetailRow.BOARD, s -> s.match(1, 0));
        last("joint", 2, s -> s.joint(DovetailRow.FLOAT, 0, 1, 1000, 1));
        last("need", 1, s -> s.need(1, 0));
        last("clamps", 6, s -> s.clamps(99));
        last("glue", 8, s -> s.glue(3));
        last("repair", 1000, s -> s.repair(0), GLUE, DAMP, PASS);
        last("through", 1, s -> s.through(24), GLUE, DAMP);
        last("breaksIn", 1, s -> s.breaksIn(0, 24), GLUE, DAMP);
        last("month", 1, s -> s.month(), PASS);
        last("ofBoard", 150, s -> s.ofBoard(0, 0), DAMP, PASS);
        last("ofPart", 1025, s -> s.ofPart(0, 1), DAMP, PASS);
        last("ofJoint", DovetailRow.BROKEN, s -> s.ofJoint(0, 0), GLUE, DAMP, PASS);
    }

    private static void theLastRefusal() {
        Check.refusedNow("no such month", Check.NO_SUCH, used(), s -> s.weather(12, 100));
        Check.refusedNow("a range", Check.RANGE, used(), s -> s.pass(25));
        Check.refusedNow("not broken", Check.STATE, used(), s -> s.repair(0));
    }

    // Full by 92 calls; three of them to glue, and 417 that look ahead, each as the first one.
    private static void allThatThereMayBe() {
        DovetailRow shop = Shops.full();
        shop.clamps(99);
        shop.glue(0x3ff);
        shop.glue(0xffc00);
        for (int i = 95; i < CALLS; i++) {
            Check.due("through, call " + (i + 1), shop.through(24), 0);
        }
    }
}
