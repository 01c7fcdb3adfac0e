/** Promise 4: board. */
public final class P04BoardTest {
    public static void main(String[] args) {
        DovetailRow shop = new DovetailRow();
        Check.due("the least", shop.board(DovetailRow.PINE, 0, 0, 100, 100, 40), 0);
        Check.due("the most", shop.board(DovetailRow.OAK, 9, 20, 6000, 30000, 300), 1);
        Check.due("the width", shop.ofBoard(1, 1), 6000);
        Check.due("the moisture", shop.ofBoard(1, 0), 300);
        Check.due("the least width", shop.ofBoard(0, 1), 100);
        Check.due("the least moisture", shop.ofBoard(0, 0), 40);
        Check.due("no knots", shop.ofBoard(1, 2), 0);
        Check.due("a place beside", shop.board(DovetailRow.OAK, 9, 19, 500, 500, 100), 2);
        Check.due("that place of another flitch", shop.board(DovetailRow.CHERRY, 8, 20, 500, 500, 100), 3);

        ranges();
        Check.refused("its place again", Check.STATE, Shops::oneBoard, s ->
                s.board(DovetailRow.OAK, 3, 5, 500, 500, 100));
        Check.refused("another species", Check.STATE, Shops::oneBoard, s ->
                s.board(DovetailRow.PINE, 3, 6, 500, 500, 100));
        Check.refused("both, and a range", Check.RANGE, Shops::oneBoard, s ->
                s.board(DovetailRow.PINE, 3, 5, 99, 500, 100));
        later();
        Check.refused("a 21st", Check.STATE, Shops::full, s -> s.board(DovetailRow.PINE, 1, 0, 500, 500, 100));
        Check.refused("a 21st, and a range", Check.RANGE, Shops::full, s -> s.board(4, 1, 0, 500, 500, 100));
        moving();
        Check.end();
    }

    private static void ranges() {
        int[] least = {0, 0, 0, 100, 100, 40};
        int[] most = {3, 9, 20, 6000, 30000, 300};
        String[] names = {"species", "flitch", "place", "width", "length", "moisture"};
        for (int i = 0; i < 6; i++) {
            int[] wrong = {least[i] - 1, most[i] + 1, Integer.MIN_VALUE, Integer.MAX_VALUE};
            for (int value : wrong) {
                int[] a = {1, 1, 1, 500, 500, 100};
                a[i] = value;
                Check.refused(names[i] + " " + value, Check.RANGE, Shops::oneBoard,
                        s -> s.board(a[0], a[1], a[2], a[3], a[4], a[5]));
            }
        }
    }

    // The first board is not the only one that a flitch is compared with.
    private static void later() {
        Check.Make two = () -> {
            DovetailRow shop = Shops.oneBoard();
            shop.board(DovetailRow.MAPLE, 4, 7, 500, 500, 100);
            return shop;
        };
        Check.refused("the second's place", Check.STATE, two, s -> s.board(DovetailRow.MAPLE, 4, 7, 500, 500, 100));
        Check.refused("another species", Check.STATE, two, s -> s.board(DovetailRow.OAK, 4, 5, 500, 500, 100));
        Check.due("the place of the other flitch", two.shop().board(DovetailRow.MAPLE, 4, 5, 500, 500, 100), 2);
    }

    // 6000 wide, from 100 to 120: by 2, 3, 4 and 5 times 12
    private static void moving() {
        for (int species = 0; species <= 3; species++) {
            DovetailRow shop = Shops.in(180);
            shop.board(species, 0, 0, 6000, 500, 100);
            shop.pass(1);
            Check.due("moisture", shop.ofBoard(0, 0), 120);
            Check.due("width of species " + species, shop.ofBoard(0, 1), 6000 + (species + 2) * 12);
        }
    }
}
