/** Promise 16, row by row: through. */
public final class Edge16ThroughTest {
    private static final int OAK = DovetailRow.OAK;
    private static final int CROSS = DovetailRow.CROSS;

    public static void main(String[] args) {
        Sentence.holds("Returns which joints that are glued, and not broken, would break",
                Edge16ThroughTest::gluedAndNotBroken);
        Sentence.holds("within the next months", Edge16ThroughTest::withinTheNextMonths);
        Sentence.holds("by the weather as it is set", Edge16ThroughTest::asItIsSet);
        Sentence.holds("also past the month 1200, which pass() does not go to.", Edge16ThroughTest::past1200);
        Sentence.holds("`months`: 1 to 24", Edge16ThroughTest::months);
        Sentence.holds("Returns the joints, as a set.", Edge16ThroughTest::asASet);
        Sentence.holds("Throws `IllegalArgumentException` if months is out of its range",
                Edge16ThroughTest::outOfItsRange);
        Sentence.holds("What through tells changes nothing, and is what pass does", Edge16ThroughTest::asPass);
        Sentence.end();
    }

    private static void gluedAndNotBroken() {
        Check.answers("no joints", 0, Shops::empty, s -> s.through(24));
        Check.answers("DRY ones", 0, Shops::threeJoints, s -> s.through(24));
        Check.answers("glued ones", 3, Shops::glued, s -> s.through(24));
        Check.answers("one is DRY", 2, Edge16ThroughTest::oneDry, s -> s.through(24));
        Check.answers("one is broken", 2, () -> Shops.later(Shops.glued(), 2), s -> s.through(24));
        Check.answers("both are broken", 0, () -> Shops.later(Shops.glued(), 3), s -> s.through(24));
        Check.answers("a LONG never", 0, () -> Shops.oneJoint(OAK, 6000, DovetailRow.LONG, 1000, 0, 300),
                s -> s.through(24));
        DovetailRow repaired = Shops.later(Shops.glued(), 3);
        repaired.repair(0);
        Check.due("one was repaired", repaired.through(24), 1);
    }

    private static DovetailRow oneDry() {
        DovetailRow shop = Shops.threeJoints();
        shop.glue(2);
        return shop;
    }

    private static void withinTheNextMonths() {
        Check.answers("not within 1", 0, Shops::glued, s -> s.through(1));
        Check.answers("the first within 2", 1, Shops::glued, s -> s.through(2));
        Check.answers("both within 3", 3, Shops::glued, s -> s.through(3));
        Check.answers("not within 23", 0, () -> Shops.slow(67, 0), s -> s.through(23));
        Check.answers("within 24", 1, () -> Shops.slow(67, 0), s -> s.through(24));
        Check.answers("not within 24", 0, () -> Shops.slow(66, 0), s -> s.through(24));
        Check.answers("within 24 of the next month on", 1, () -> Shops.later(Shops.slow(66, 0), 1), s -> s.through(24));
        Check.answers("so it breaks in the 25th", 1, () -> Shops.later(Shops.slow(66, 0), 24), s -> s.pass(1));
        // Only the second month is damp; by the 24th all is as it was, but the joint is broken.
        DovetailRow shop = Shops.oneJoint(OAK, 1000, CROSS, 1000, 0, 100);
        shop.weather(1, 300);
        Check.due("before the damp month", shop.through(1), 0);
        Check.due("in the damp month", shop.through(2), 1);
        Check.due("long after it", shop.through(12), 1);
    }

    private static void asItIsSet() {
        DovetailRow shop = Shops.oneJoint(OAK, 1000, CROSS, 1000, 0, 100);
        Check.due("as it was glued", shop.through(24), 0);
        shop.weather(11, 300);
        Check.due("before the month 11", shop.through(11), 0);
        Check.due("with the month 11", shop.through(12), 1);
        shop.weather(11, 100);
        Check.due("set back", shop.through(24), 0);
        shop.weather(0, 40);
        Check.due("the next month, dry", shop.through(1), 1);
    }

    // The month 1200 has the remainder 0, as has 1212; the last that is looked at is 1223, of 11.
    private static void past1200() {
        for (int remainder = 0; remainder < 12; remainder++) {
            int damp = remainder;
            Check.answers("with " + remainder + " in 1200", 1, () -> Shops.damp(1200, damp), s -> s.through(damp + 1));
            if (remainder > 0) {
                Check.answers("before " + remainder + " in 1200", 0, () -> Shops.damp(1200, damp),
                        s -> s.through(damp));
            }
        }
        Check.answers("1199 is the last that goes by", 1, () -> Shops.damp(1199, 11), s -> s.through(1));
        Check.answers("1200 from 1199 on", 1, () -> Shops.damp(1199, 0), s -> s.through(2));
        Check.answers("not within 1 of 1199", 0, () -> Shops.damp(1199, 0), s -> s.through(1));
        Check.answers("1222 from 1199 on", 0, () -> Shops.damp(1199, 10), s -> s.through(11));
        for (int remainder = 0; remainder < 12; remainder++) {
            int damp = remainder;
            Check.answers("the second year's " + remainder, 1, () -> Shops.breaksInTheSecondYear(1200, damp),
                    s -> s.through(13 + damp));
            Check.answers("before the second year's " + remainder, 0, () -> Shops.breaksInTheSecondYear(1200, damp),
                    s -> s.through(12 + damp));
        }
        Check.refused("pass does not go there", Check.STATE, () -> Shops.damp(1200, 0), s -> s.pass(1));
        // In damp air from the month 1200 on, up to 1223 and 1224.
        Check.answers("the 24th month past it", 1, () -> Shops.slow(67, 1200), s -> s.through(24));
        Check.answers("not the 23rd", 0, () -> Shops.slow(67, 1200), s -> s.through(23));
        Check.answers("not the 25th", 0, () -> Shops.slow(66, 1200), s -> s.through(24));
    }

    private static void months() {
        Edge.range(Check.RANGE, 1, 24, Shops::busy, (s, i) -> s.through(i));
        Edge.range(Check.RANGE, 1, 24, () -> Shops.at(1200), (s, i) -> s.through(i));
    }

    private static void asASet() {
        for (int set : new int[] {0, 1, 2, 1 << 29, (1 << 29) + 1, (1 << 30) - 1}) {
            Check.answers("the set " + set, set, () -> Shops.thirtyGlued(set), s -> s.through(1));
        }
    }

    private static void outOfItsRange() {
        Edge.beyond(Check.RANGE, 1, 24, Shops::empty, (s, i) -> s.through(i));
        Edge.beyond(Check.RANGE, 1, 24, () -> Shops.at(1200), (s, i) -> s.through(i));
        Check.refused("-24", Check.RANGE, Shops::busy, s -> s.through(-24));
    }

    private static void asPass() {
        for (int months = 1; months <= 24; months++) {
            DovetailRow asked = Shops.busy();
            int set = asked.through(months);
            Check.due("how many, in " + months, asked.pass(months), Integer.bitCount(set));
            for (int joint = 1; joint < 7; joint++) {
                boolean breaks = (set >> joint & 1) == 1;
                Check.due("joint " + joint + " in " + months, asked.ofJoint(joint, 0) == DovetailRow.BROKEN, breaks);
            }
        }
        Check.due("what it changes", Tale.difference(() -> {
            DovetailRow shop = Shops.busy();
            shop.through(24);
            return shop;
        }, Shops::busy), "");
    }
}
