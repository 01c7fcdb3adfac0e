/** The ends of a range: what is allowed last, and what is refused first, on either side. */
final class Edge {
    interface CallWith {
        int on(DovetailRow shop, int value);
    }

    private Edge() {
    }

    /** The least and the greatest are answered; what is beyond them is refused. */
    static void range(Class<? extends RuntimeException> refusal, int least, int greatest, Check.Make make,
            CallWith call) {
        ends(least, greatest, make, call);
        beyond(refusal, least, greatest, make, call);
    }

    /** The least and the greatest are answered. */
    static void ends(int least, int greatest, Check.Make make, CallWith call) {
        answered(least, make, call);
        answered(greatest, make, call);
    }

    /** By 1 beyond either end, and at the ends of int, the call is refused. */
    static void beyond(Class<? extends RuntimeException> refusal, int least, int greatest, Check.Make make,
            CallWith call) {
        for (int value : new int[] {least - 1, greatest + 1, Integer.MIN_VALUE, Integer.MAX_VALUE}) {
            Check.refused(Integer.toString(value), refusal, make, s -> call.on(s, value));
        }
    }

    private static void answered(int value, Check.Make make, CallWith call) {
        String outcome = Check.outcome(make.shop(), s -> call.on(s, value));
        Check.due(value + " with " + outcome, outcome.startsWith("throws"), false);
    }
}
