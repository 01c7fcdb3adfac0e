/** Compares answers with what is due, and tells of each that differs. */
final class Check {
    interface Make {
        DovetailRow shop();
    }

    interface Call {
        int on(DovetailRow shop);
    }

    static final Class<? extends RuntimeException> NO_SUCH = IndexOutOfBoundsException.class;
    static final Class<? extends RuntimeException> RANGE = IllegalArgumentException.class;
    static final Class<? extends RuntimeException> STATE = IllegalStateException.class;

    private static int wrong = 0;

    private Check() {
    }

    static void due(String what, Object got, Object want) {
        if (!want.equals(got)) {
            wrong++;
            System.out.println(what + " answered " + got + ", due is " + want);
        }
    }

    /** The call answers just that. */
    static void answers(String what, int want, Make make, Call call) {
        due(what, outcome(make.shop(), call), Integer.toString(want));
    }

    /** The call throws just that, by a throw of the class itself, and changes nothing of all that can be asked. */
    static void refused(String what, Class<? extends RuntimeException> want, Make make, Call call) {
        due(what, outcome(make.shop(), call), "throws " + want.getName());
        due(what + ", what it left", Tale.difference(() -> after(make, call), make), "");
    }

    /** The call throws just that on this very shop, whatever else it was used for. */
    static void refusedNow(String what, Class<? extends RuntimeException> want, DovetailRow shop, Call call) {
        due(what, outcome(shop, call), "throws " + want.getName());
    }

    private static DovetailRow after(Make make, Call call) {
        DovetailRow shop = make.shop();
        outcome(shop, call);
        return shop;
    }

    /** The answer as a text, or what was thrown; something that the machine or the library threw is marked. */
    static String outcome(DovetailRow shop, Call call) {
        try {
            return Integer.toString(call.on(shop));
        } catch (RuntimeException e) {
            StackTraceElement[] trace = e.getStackTrace();
            boolean isOwn = trace.length > 0 && trace[0].getClassName().startsWith("DovetailRow");
            return "throws " + e.getClass().getName() + (isOwn ? "" : ", not by itself");
        }
    }

    /** How many answers were not as due until now. */
    static int wrongSoFar() {
        return wrong;
    }

    static void end() {
        if (wrong != 0) {
            System.out.println(wrong + " answers are not as due");
            System.exit(1);
        }
    }
}
