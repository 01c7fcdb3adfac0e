/** Promise 17, row by row: breaksIn. */
public final class Edge17BreaksInTest {
    private static final int OAK = DovetailRow.OAK;
    private static final int CROSS = DovetailRow.CROSS;
    private static final int NONE = DovetailRow.NONE;

    public static void main(String[] args) {
        Sentence.holds("Returns in which of the next months a joint would break", Edge17BreaksInTest::inWhich);
        Sentence.holds("by the weather as it is set", Edge17BreaksInTest::asItIsSet);
        Sentence.holds("also past the month 1200, likewise.", Edge17BreaksInTest::past1200);
        Sentence.holds("`joint`: a joint", Edge17BreaksInTest::aJoint);
        Sentence.holds("`months`: 1 to 24", Edge17BreaksInTest::months);
        Sentence.holds("Returns 1 for the next one, and so on", Edge17BreaksInTest::theNextOne);
        Sentence.holds("NONE if in none of them.", Edge17BreaksInTest::inNone);
        Sentence.holds("Throws `IndexOutOfBoundsException` if there is no such joint", Edge17BreaksInTest::noJoint);
        Sentence.holds("Throws `IllegalArgumentException` if months is out of its range",
                Edge17BreaksInTest::outOfItsRange);
        Sentence.holds("Throws `IllegalStateException` if it is not glued", Edge17BreaksInTest::notGlued);
        Sentence.holds("or is broken", Edge17BreaksInTest::broken);
        Sentence.end();
    }

    private static void inWhich() {
        Check.answers("the CROSS", 2, Shops::glued, s -> s.breaksIn(0, 24));
        Check.answers("the FLOAT", 3, Shops::glued, s -> s.breaksIn(1, 24));
        Check.answers("the LONG", NONE, Shops::glued, s -> s.breaksIn(2, 24));
        Check.answers("the CROSS, a month later", 1, () -> Shops.later(Shops.glued(), 1), s -> s.breaksIn(0, 24));
        // It is the first month in which it breaks, though it would be as it was by the last.
        DovetailRow shop = Shops.oneJoint(OAK, 1000, CROSS, 1000, 0, 100);
        shop.weather(1, 300);
        Check.due("the damp month", shop.breaksIn(0, 24), 2);
        Check.due("what it changes", Tale.difference(() -> {
            DovetailRow busy = Shops.busy();
            busy.breaksIn(1, 24);
            return busy;
        }, Shops::busy), "");
    }

    private static void asItIsSet() {
        for (int month = 0; month < 12; month++) {
            DovetailRow shop = Shops.oneJoint(OAK, 1000, CROSS, 1000, 0, 100);
            shop.weather(month, 300);
            Check.due("with month " + month, shop.breaksIn(0, 12), month + 1);
            shop.weather(month, 100);
            Check.due("set back", shop.breaksIn(0, 24), NONE);
        }
    }

    private static void past1200() {
        for (int remainder = 0; remainder < 12; remainder++) {
            int told = remainder;
            Check.answers("from 1200 on", remainder + 1, () -> Shops.damp(1200, told), s -> s.breaksIn(0, 24));
            Check.answers("from 1199 on", (remainder + 1) % 12 + 1, () -> Shops.damp(1199, told),
                    s -> s.breaksIn(0, 24));
            Check.answers("from 1190 on", (remainder + 10) % 12 + 1, () -> Shops.damp(1190, told),
                    s -> s.breaksIn(0, 24));
        }
        for (int remainder = 0; remainder < 12; remainder++) {
            int told = remainder;
            Check.answers("in the second year from 1200 on", 13 + remainder,
                    () -> Shops.breaksInTheSecondYear(1200, told), s -> s.breaksIn(0, 24));
            Check.answers("in the second year from 1188 on", 13 + remainder,
                    () -> Shops.breaksInTheSecondYear(1188, told), s -> s.breaksIn(0, 24));
            Check.answers("in the second year from 1199 on", 13 + (remainder + 1) % 12,
                    () -> Shops.breaksInTheSecondYear(1199, told), s -> s.breaksIn(0, 24));
        }
        Check.answers("in none of them", NONE, () -> Shops.damp(1200, 11), s -> s.breaksIn(0, 11));
        Check.answers("the 24th past 1200", 24, () -> Shops.slow(67, 1200), s -> s.breaksIn(0, 24));
        Check.answers("the 25th past 1200", NONE, () -> Shops.slow(66, 1200), s -> s.breaksIn(0, 24));
    }

    // In a busy shop 1 to 4 are glued, and not broken.
    private static void aJoint() {
        Edge.ends(1, 4, Shops::busy, (s, i) -> s.breaksIn(i, 24));
        Edge.ends(0, 2, Shops::glued, (s, i) -> s.breaksIn(i, 24));
        Edge.beyond(Check.NO_SUCH, 0, 6, Shops::busy, (s, i) -> s.breaksIn(i, 24));
    }

    private static void months() {
        Edge.range(Check.RANGE, 1, 24, Shops::glued, (s, i) -> s.breaksIn(0, i));
        Edge.range(Check.RANGE, 1, 24, () -> Shops.at(1200), (s, i) -> s.breaksIn(0, i));
    }

    private static void theNextOne() {
        Check.answers("1", 1, () -> Shops.oneJoint(OAK, 1000, CROSS, 750, 0, 164), s -> s.breaksIn(0, 1));
        Check.answers("1 of 24", 1, () -> Shops.oneJoint(OAK, 1000, CROSS, 750, 0, 164), s -> s.breaksIn(0, 24));
        Check.answers("2", 2, () -> Shops.oneJoint(OAK, 1000, CROSS, 749, 0, 164), s -> s.breaksIn(0, 2));
        Check.answers("24", 24, () -> Shops.slow(67, 0), s -> s.breaksIn(0, 24));
        for (int gone = 0; gone < 24; gone++) {
            DovetailRow shop = Shops.later(Shops.slow(67, 0), gone);
            Check.due("after " + gone, shop.breaksIn(0, 24), 24 - gone);
        }
        Check.answers("then it breaks", 1, () -> Shops.later(Shops.slow(67, 0), 23), s -> s.pass(1));
    }

    private static void inNone() {
        Check.answers("2 of 1", NONE, () -> Shops.oneJoint(OAK, 1000, CROSS, 749, 0, 164), s -> s.breaksIn(0, 1));
        Check.answers("24 of 23", NONE, () -> Shops.slow(67, 0), s -> s.breaksIn(0, 23));
        Check.answers("25 of 24", NONE, () -> Shops.slow(66, 0), s -> s.breaksIn(0, 24));
        Check.answers("never", NONE, () -> Shops.at(0), s -> s.breaksIn(0, 24));
    }

    private static void noJoint() {
        Check.refused("none of none", Check.NO_SUCH, Shops::threeParts, s -> s.breaksIn(0, 1));
        Edge.beyond(Check.NO_SUCH, 0, 2, Shops::glued, (s, i) -> s.breaksIn(i, 1));
        Edge.beyond(Check.NO_SUCH, 0, 29, Shops::full, (s, i) -> s.breaksIn(i, 24));
    }

    private static void outOfItsRange() {
        for (int joint = 0; joint < 3; joint++) {
            int one = joint;
            Edge.beyond(Check.RANGE, 1, 24, Shops::glued, (s, i) -> s.breaksIn(one, i));
        }
        Check.refused("-24", Check.RANGE, Shops::glued, s -> s.breaksIn(0, -24));
    }

    private static void notGlued() {
        for (int joint = 0; joint < 3; joint++) {
            int one = joint;
            Check.refused("DRY, in 1", Check.STATE, Shops::threeJoints, s -> s.breaksIn(one, 1));
            Check.refused("DRY, in 24", Check.STATE, Shops::threeJoints, s -> s.breaksIn(one, 24));
        }
        Check.answers("STUCK is glued", NONE, Shops::busy, s -> s.breaksIn(3, 1));
    }

    private static void broken() {
        Check.refused("the CROSS", Check.STATE, Shops::busy, s -> s.breaksIn(0, 1));
        Check.refused("the FLOAT", Check.STATE, () -> Shops.later(Shops.glued(), 3), s -> s.breaksIn(1, 24));
        Check.answers("the LONG beside", NONE, () -> Shops.later(Shops.glued(), 3), s -> s.breaksIn(2, 24));
        DovetailRow repaired = Shops.later(Shops.glued(), 3);
        repaired.repair(0);
        Check.due("repaired", repaired.breaksIn(0, 24), 5);
    }
}
