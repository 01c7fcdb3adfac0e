/** All that can be asked of a shop, as a text. The shop is spent by it: edges, weather and clamps are set anew. */
final class Tale {
    private static final int[] LENGTHS = {10, 470, 1000};
    private static final int MOST = 100;

    private final DovetailRow shop;
    private final StringBuilder text = new StringBuilder();

    private Tale(DovetailRow shop) {
        this.shop = shop;
    }

    static String of(DovetailRow shop) {
        Tale tale = new Tale(shop);
        tale.tellAll();
        return tale.text.toString();
    }

    private void tellAll() {
        int boards = count((s, i) -> s.ofBoard(i, 0));
        int parts = count((s, i) -> s.ofPart(i, 0));
        int joints = count((s, i) -> s.ofJoint(i, 0));
        text.append("counts ").append(boards).append(' ').append(parts).append(' ').append(joints);
        say("month", s -> s.month());
        say("through", s -> s.through(24));
        // An object answers 512 calls, so of many only the first and the last ones are told.
        for (int i = 0; i < boards; i++) {
            if (i < 2 || i >= boards - 2) {
                tellBoard(i);
            }
        }
        for (int i = 0; i < parts; i++) {
            if (i < 3 || i >= parts - 2) {
                tellParts(i);
            }
        }
        tellJoints(joints);
        for (int air = 40; air <= 300; air += 260) {
            for (int month = 0; month < 12; month++) {
                int inMonth = month;
                int moisture = air;
                say("weather", s -> s.weather(inMonth, moisture));
            }
            for (int i = 0; i < joints; i++) {
                int joint = i;
                if (i < 3 || i >= joints - 2) {
                    say("breaksIn", s -> s.breaksIn(joint, 24));
                }
            }
        }
        say("clamps", s -> s.clamps(99));
        say("saw", s -> s.sharpen(0));
        say("chisel", s -> s.sharpen(1));
    }

    private interface Ask {
        int on(DovetailRow shop, int number);
    }

    private int count(Ask ask) {
        for (int i = 0; i < MOST; i++) {
            int number = i;
            if (Check.outcome(shop, s -> ask.on(s, number)).startsWith("throws")) {
                return i;
            }
        }
        return MOST;
    }

    private void say(String what, Check.Call call) {
        text.append(", ").append(what).append(' ').append(Check.outcome(shop, call));
    }

    private void tellBoard(int board) {
        for (int what = 0; what <= 2; what++) {
            int asked = what;
            say("board " + board + "." + what, s -> s.ofBoard(board, asked));
        }
        for (int length : LENGTHS) {
            say("clearFrom", s -> s.clearFrom(board, length));
        }
    }

    private void tellParts(int part) {
        for (int what = 0; what <= 4; what++) {
            int asked = what;
            say("part " + part + "." + what, s -> s.ofPart(part, asked));
        }
    }

    private void tellJoints(int joints) {
        for (int i = 0; i < joints; i++) {
            if (i >= 3 && i < joints - 2) {
                continue;
            }
            int joint = i;
            for (int what = 0; what <= 4; what++) {
                int asked = what;
                say("joint " + joint + "." + what, s -> s.ofJoint(joint, asked));
            }
            say("breaksIn", s -> s.breaksIn(joint, 24));
        }
    }
}
