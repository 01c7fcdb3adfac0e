/** Promise 3: pass, and how wood takes up the weather. */
public final class P03PassTest {
    public static void main(String[] args) {
        Check.refused("pass(0)", Check.RANGE, Shops::glued, s -> s.pass(0));
        Check.refused("pass(25)", Check.RANGE, Shops::glued, s -> s.pass(25));
        Check.refused("pass(-1)", Check.RANGE, Shops::glued, s -> s.pass(-1));
        Check.refused("pass far", Check.RANGE, Shops::glued, s -> s.pass(Integer.MAX_VALUE));
        Check.refused("pass(1) at 1200", Check.STATE, () -> at(1200), s -> s.pass(1));
        Check.refused("pass(11) at 1190", Check.STATE, () -> at(1190), s -> s.pass(11));
        Check.refused("pass(25) at 1200", Check.RANGE, () -> at(1200), s -> s.pass(25));
        DovetailRow late = at(1190);
        Check.due("pass(10) at 1190", late.pass(10), 0);
        Check.due("the last month", late.month(), 1200);

        moisture();
        coats();
        broken();
        whileDry();
        Check.end();
    }

    private static DovetailRow at(int month) {
        DovetailRow shop = new DovetailRow();
        shop.board(DovetailRow.OAK, 1, 1, 1000, 1000, 120);
        for (int i = 0; i < month / 24; i++) {
            shop.pass(24);
        }
        if (month % 24 != 0) {
            shop.pass(month % 24);
        }
        return shop;
    }

    private static int after(int moisture, int air, int months) {
        DovetailRow shop = Shops.in(air);
        shop.board(DovetailRow.OAK, 1, 1, 1000, 1000, moisture);
        shop.pass(months);
        return shop.ofBoard(0, 0);
    }

    private static void moisture() {
        Check.due("the same", after(100, 100, 1), 100);
        Check.due("1 less", after(101, 100, 1), 100);
        Check.due("1 more", after(99, 100, 1), 100);
        Check.due("3 less", after(103, 100, 1), 102);
        Check.due("3 more", after(97, 100, 1), 98);
        Check.due("4 more", after(96, 100, 1), 97);
        Check.due("7 more", after(93, 100, 1), 94);
        Check.due("8 more", after(92, 100, 1), 94);
        Check.due("7 less", after(107, 100, 1), 106);
        Check.due("8 less", after(108, 100, 1), 106);
        Check.due("the most more", after(40, 300, 1), 105);
        Check.due("the most less", after(300, 40, 1), 235);
        Check.due("two months", after(200, 100, 2), 157);
        Check.due("all of it at last", after(200, 100, 24), 100);
    }

    private static void coats() {
        int[] due = {225, 220, 217, 215, 213, 212, 210};
        for (int coats = 0; coats <= 6; coats++) {
            DovetailRow shop = Shops.in(300);
            shop.board(DovetailRow.PINE, 0, 0, 1000, 1000, 200);
            shop.cut(0, 0, 100, 1000, false);
            for (int i = 0; i < coats; i++) {
                shop.coat(0);
            }
            shop.pass(1);
            // 100 divided by 4 to 10: 25, 20, 16, 14, 12, 11, 10
            int part = 200 + 100 / (4 + coats);
            Check.due(coats + " coats", shop.ofPart(0, 2), part);
            Check.due("the board of that", shop.ofBoard(0, 0), due[0]);
        }
    }

    private static void broken() {
        DovetailRow shop = Shops.glued();
        // month 0: 200 to 175, so the CROSS moves by 1000 * 2 * -25 / 10000 = -5: it holds
        Check.due("the first month", shop.pass(1), 0);
        Check.due("the CROSS", shop.ofJoint(0, 0), DovetailRow.WHOLE);
        // month 1: 175 to 157, moved by -8
        Check.due("the second month", shop.pass(1), 1);
        Check.due("the CROSS then", shop.ofJoint(0, 0), DovetailRow.BROKEN);
        Check.due("the FLOAT then", shop.ofJoint(1, 0), DovetailRow.WHOLE);
        // 143, 133: the FLOAT's part is 989, then 987 wide, less than 1000 - 2 * 5
        Check.due("the third month", shop.pass(1), 1);
        Check.due("the FLOAT at last", shop.ofJoint(1, 0), DovetailRow.BROKEN);
        Check.due("more months", shop.pass(24), 0);
        Check.due("the LONG", shop.ofJoint(2, 0), DovetailRow.WHOLE);
        Check.due("the month", shop.month(), 27);

        DovetailRow whole = Shops.glued();
        Check.due("all in one go", whole.pass(24), 2);
    }

    private static void whileDry() {
        DovetailRow shop = Shops.threeJoints();
        Check.due("dry joints", shop.pass(24), 0);
        for (int joint = 0; joint < 3; joint++) {
            Check.due("joint " + joint, shop.ofJoint(joint, 0), DovetailRow.DRY);
        }
        // The FLOAT's part is 980 wide by now: glued, it breaks as the next month goes by, not before.
        shop.glue(2);
        Check.due("the FLOAT, glued too narrow", shop.ofJoint(1, 0), DovetailRow.WHOLE);
        Check.due("a month on", shop.pass(1), 1);
        Check.due("the FLOAT then", shop.ofJoint(1, 0), DovetailRow.BROKEN);
    }
}
