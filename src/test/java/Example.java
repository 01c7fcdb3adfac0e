/** The example of README.md, which tells it line by line. */
public final class Example {
    public static void main(String[] args) {
        DovetailRow shop = new DovetailRow();
        int board = shop.board(DovetailRow.OAK, 0, 4, 2000, 9000, 100);
        int side = shop.cut(board, 0, 1000, 1500, false);
        int front = shop.cut(board, 1030, 1000, 1500, false);
        int joint = shop.joint(DovetailRow.CROSS, side, front, 1500, 0);
        System.out.println("glued in " + shop.glue(1 << joint) + " minutes");
        shop.weather(2, 140);
        System.out.println("would break in month " + shop.breaksIn(joint, 24) + " from now");
        System.out.println("broken by two months: " + shop.pass(2));
        System.out.println("broken by the third: " + shop.pass(1));
        System.out.println("is broken: " + (shop.ofJoint(joint, 0) == DovetailRow.BROKEN));
        try {
            shop.glue(1 << joint);
        } catch (IllegalStateException e) {
            System.out.println("can't be glued again");
        }
        System.out.println("repaired, with the size " + shop.repair(joint));
    }
}
