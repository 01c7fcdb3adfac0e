import java.util.ArrayList;
import java.util.List;

/**
 * All that can be asked of a shop, answer by answer. An object answers 512 calls, and some questions change what they
 * are asked of, so the questions come in groups, each of which is asked of a shop that is made anew.
 */
final class Tale {
    // The shops of the tests are made by fewer than 200 calls.
    private static final int ASKED_OF_ONE = 300;
    private static final int[] LENGTHS = {10, 70, 470, 1000, 5000};
    private static final int MOST = 100;

    private final List<List<String>> names = new ArrayList<>();
    private final List<List<Check.Call>> groups = new ArrayList<>();

    private Tale(DovetailRow shop) {
        int boards = count(shop, (s, i) -> s.ofBoard(i, 0));
        int parts = count(shop, (s, i) -> s.ofPart(i, 0));
        int joints = count(shop, (s, i) -> s.ofJoint(i, 0));
        lookRound(boards, parts, joints);
        weathers(joints);
        later(boards, parts, joints);
        work(parts, joints);
        more(boards, parts, joints);
    }

    /** The first question that the two shops answer differently, or nothing. */
    static String difference(Check.Make got, Check.Make want) {
        Tale tale = new Tale(want.shop());
        for (int i = 0; i < tale.groups.size(); i++) {
            DovetailRow one = got.shop();
            DovetailRow other = want.shop();
            for (int k = 0; k < tale.groups.get(i).size(); k++) {
                Check.Call call = tale.groups.get(i).get(k);
                String answer = Check.outcome(one, call);
                String due = Check.outcome(other, call);
                if (!answer.equals(due)) {
                    return tale.names.get(i).get(k) + ": " + answer + ", not " + due;
                }
            }
        }
        return "";
    }

    private interface Ask {
        int on(DovetailRow shop, int number);
    }

    private static int count(DovetailRow shop, Ask ask) {
        for (int i = 0; i < MOST; i++) {
            int number = i;
            if (Check.outcome(shop, s -> ask.on(s, number)).startsWith("throws")) {
                return i;
            }
        }
        return MOST;
    }

    private void newGroup() {
        names.add(new ArrayList<>());
        groups.add(new ArrayList<>());
    }

    private void ask(String name, Check.Call call) {
        names.get(names.size() - 1).add(name);
        groups.get(groups.size() - 1).add(call);
    }

    // What is asked here changes nothing, so it may go on in another shop.
    private void look(String name, Check.Call call) {
        if (groups.get(groups.size() - 1).size() >= ASKED_OF_ONE) {
            newGroup();
        }
        ask(name, call);
    }

    // One number more than there are is asked for, to see that there is none.
    private void lookRound(int boards, int parts, int joints) {
        newGroup();
        look("month", s -> s.month());
        for (int months : new int[] {1, 2, 12, 24}) {
            look("through " + months, s -> s.through(months));
        }
        for (int i = 0; i <= boards; i++) {
            lookAtBoard(i);
        }
        for (int i = 0; i <= parts; i++) {
            lookAtPart(i);
        }
        for (int i = 0; i <= joints; i++) {
            lookAtJoint(i);
        }
    }

    private void lookAtBoard(int board) {
        for (int what = 0; what <= 2; what++) {
            int asked = what;
            look("board " + board + "." + what, s -> s.ofBoard(board, asked));
        }
        for (int length : LENGTHS) {
            look("clearFrom " + board + " of " + length, s -> s.clearFrom(board, length));
        }
    }

    private void lookAtPart(int part) {
        for (int what = 0; what <= 4; what++) {
            int asked = what;
            look("part " + part + "." + what, s -> s.ofPart(part, asked));
        }
        look("match of " + part, s -> s.match(part, part + 1));
        look("match of " + part + " with 0", s -> s.match(part, 0));
    }

    private void lookAtJoint(int joint) {
        for (int what = 0; what <= 4; what++) {
            int asked = what;
            look("joint " + joint + "." + what, s -> s.ofJoint(joint, asked));
        }
        look("breaksIn of " + joint, s -> s.breaksIn(joint, 24));
    }

    // The weather before, and what joints would do in the driest and in the dampest one.
    private void weathers(int joints) {
        newGroup();
        for (int moisture : new int[] {40, 300}) {
            for (int month = 0; month < 12; month++) {
                int inMonth = month;
                ask("weather " + month, s -> s.weather(inMonth, moisture));
            }
            for (int i = 0; i < joints; i++) {
                int joint = i;
                ask("breaksIn of " + joint + " at " + moisture, s -> s.breaksIn(joint, 24));
            }
        }
    }

    private void later(int boards, int parts, int joints) {
        newGroup();
        ask("pass", s -> s.pass(5));
        ask("month, later", s -> s.month());
        for (int i = 0; i < boards; i++) {
            int board = i;
            ask("board later " + board, s -> s.ofBoard(board, 0));
        }
        for (int i = 0; i < parts; i++) {
            int part = i;
            ask("part later " + part, s -> s.ofPart(part, 2));
        }
        for (int i = 0; i < joints; i++) {
            int joint = i;
            ask("joint later " + joint, s -> s.ofJoint(joint, 0));
        }
    }

    private void work(int parts, int joints) {
        newGroup();
        ask("clamps", s -> s.clamps(99));
        for (int i = 0; i < parts; i++) {
            int part = i;
            ask("coat of " + part, s -> s.coat(part));
        }
        for (int i = 0; i < joints; i++) {
            int joint = i;
            ask("need of " + joint, s -> s.need(joint, 0));
            ask("glue of " + joint, s -> s.glue(1 << joint));
            ask("repair of " + joint, s -> s.repair(joint));
        }
    }

    private void more(int boards, int parts, int joints) {
        newGroup();
        ask("saw", s -> s.sharpen(0));
        ask("chisel", s -> s.sharpen(1));
        for (int flitch = 0; flitch <= 9; flitch++) {
            int asked = flitch;
            ask("board of flitch " + flitch, s -> s.board(DovetailRow.PINE, asked, 19, 100, 100, 100));
        }
        for (int i = 0; i < boards; i++) {
            int board = i;
            ask("knot of " + board, s -> s.knot(board, 99, 100));
            ask("cut of " + board, s -> s.cut(board, s.clearFrom(board, 10), 10, 10, true));
        }
        for (int i = 0; i + 1 < parts; i++) {
            int part = i;
            ask("joint of " + part, s -> s.joint(DovetailRow.LONG, part, part + 1, 10, 0));
        }
        ask("all joints", s -> s.glue((1 << joints) - 1));
    }
}
