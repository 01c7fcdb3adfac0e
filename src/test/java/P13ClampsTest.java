/** Promise 13: clamps. */
public final class P13ClampsTest {
    public static void main(String[] args) {
        DovetailRow shop = new DovetailRow();
        Check.due("at first", shop.clamps(1), 6);
        Check.due("the least", shop.clamps(99), 1);
        Check.due("the most", shop.clamps(7), 99);
        Check.due("at last", shop.clamps(7), 7);
        Check.refused("0", Check.RANGE, Shops::threeJoints, s -> s.clamps(0));
        Check.refused("100", Check.RANGE, Shops::threeJoints, s -> s.clamps(100));
        Check.refused("-1", Check.RANGE, Shops::threeJoints, s -> s.clamps(-1));
        Check.refused("far", Check.RANGE, Shops::threeJoints, s -> s.clamps(Integer.MIN_VALUE));
        Check.end();
    }
}
