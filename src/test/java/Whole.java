import java.util.ArrayList;
import java.util.List;

/**
 * Refused calls: that each throws what is due, and that it changed nothing. For that, two objects
 * are brought to the same state, the call is tried on one of them, and both are asked the same.
 * What no question tells (what a drawing told itself, who lent, which number comes next) is asked
 * by calls that change it. No object is used for more than 512 calls, so each part of the questions
 * is put to new ones.
 */
final class Whole {
    static final String INDEX = "IndexOutOfBoundsException";
    static final String ARGUMENT = "IllegalArgumentException";
    static final String STATE = "IllegalStateException";

    interface State {
        HousePlans make();
    }

    interface Use {
        Object on(HousePlans x);
    }

    interface NumberUse {
        Object on(HousePlans x, int number);
    }

    private static final int PARTS = 15;

    private final HousePlans x;
    private final List<String> answers = new ArrayList<>();

    private Whole(HousePlans x) {
        this.x = x;
    }

    /** The call throws this, and all that is asked then is answered as without the call. */
    static void refused(String due, String what, State state, Use call) {
        HousePlans x = state.make();
        Check.due(due, what, () -> call.on(x));
        for (int part = 0; part < PARTS; part++) {
            HousePlans tried = state.make();
            Check.answer(() -> call.on(tried));
            List<String> without = answers(state.make(), part);
            List<String> with = answers(tried, part);
            for (int each = 0; each < without.size(); each++) {
                String answer = with.get(each);
                Check.due(without.get(each), what + " was refused; then", () -> answer);
            }
        }
    }

    /** The call is refused for the numbers just outside, and for those farthest outside. */
    static void outside(String due, String what, State state, int[] range, NumberUse use) {
        int below = range[0] - 1;
        int above = range[1] + 1;
        for (int bad : new int[] {below, above, Integer.MIN_VALUE, Integer.MAX_VALUE}) {
            refused(due, what + " " + bad, state, x -> use.on(x, bad));
        }
    }

    /** There is no such drawing: where there are none, some, and as many as there may be. */
    static void noDrawing(String what, NumberUse use) {
        outside(INDEX, what + " of no drawing, none yet:", Houses::none, range(0, -1), use);
        outside(INDEX, what + " of no drawing, of one:", () -> Houses.locked(1), range(0, 0), use);
        outside(INDEX, what + " of no drawing, of four:", Houses::lived, range(0, 3), use);
        outside(INDEX, what + " of no drawing, of six:", Houses::full, range(0, 5), use);
    }

    static int[] range(int least, int greatest) {
        return new int[] {least, greatest};
    }

    static Object lock(HousePlans x, int drawing, int person) {
        x.lock(drawing, person);
        return "nothing";
    }

    static Object unlock(HousePlans x, int drawing, int person) {
        x.unlock(drawing, person);
        return "nothing";
    }

    private static List<String> answers(HousePlans x, int part) {
        Whole whole = new Whole(x);
        if (part == 0) {
            whole.askAll();
        } else if (part == 1) {
            whole.askLocks();
        } else if (part == 2) {
            whole.askNextNumbers();
        } else if (part < 9) {
            whole.askFloor(part - 3);
        } else {
            whole.askWhatIsTold(part - 9);
        }
        return whole.answers;
    }

    private void ask(String what, Check.Call call) {
        answers.add(what + " " + Check.answer(call));
    }

    private void askAll() {
        ask("drawings", () -> x.drawings());
        ask("old", () -> x.old());
        for (int each = 0; each <= 6; each++) {
            int drawing = each;
            ask("canChange of " + drawing, () -> x.canChange(drawing));
        }
        for (int each = 0; each <= 20; each++) {
            int permit = each;
            ask("holds of " + permit, () -> x.holds(permit));
        }
        for (int each = 0; each <= 30; each++) {
            int print = each;
            ask("permitOf of " + print, () -> x.permitOf(print));
            ask("isGood of " + print, () -> x.isGood(print));
        }
    }

    private void askLocks() {
        for (int each = 0; each < 6; each++) {
            int drawing = each;
            for (int one = 0; one < 6; one++) {
                int person = one;
                ask("taking back " + drawing, () -> x.lend(drawing, person, HousePlans.NONE));
                ask("unlocking " + drawing, () -> unlock(x, drawing, person));
            }
        }
    }

    private void askNextNumbers() {
        ask("begin", () -> x.begin());
        ask("drawings", () -> x.drawings());
        for (int each = 0; each < 6; each++) {
            int drawing = each;
            ask("grant for " + drawing, () -> x.grant(drawing));
            ask("print of " + drawing, () -> x.print(drawing));
        }
    }

    private void askFloor(int drawing) {
        ask("rooms of " + drawing, () -> x.rooms(drawing));
        for (int each = 0; each < 40; each++) {
            int side = each;
            ask("side " + side + " of " + drawing, () -> x.side(drawing, side));
        }
        for (int each = 0; each < 25; each++) {
            int cell = each;
            String of = " of " + drawing + " at " + cell;
            ask("hasExit" + of, () -> x.hasExit(drawing, cell));
            ask("room" + of, () -> x.room(drawing, cell));
            ask("size" + of, () -> x.size(drawing, cell));
            ask("doorsOut" + of, () -> x.doorsOut(drawing, cell));
            ask("doorThatHelps" + of, () -> x.doorThatHelps(drawing, cell));
        }
    }

    private void askWhatIsTold(int drawing) {
        ask("locking " + drawing, () -> lock(x, drawing, 0));
        if (drawing >= x.drawings()) {
            return;
        }
        int person = x.canChange(drawing);
        for (int each = 0; each < 40; each++) {
            int side = each;
            ask(drawing + " telling nothing of side " + side,
                    () -> x.tell(drawing, person, side, HousePlans.NONE));
        }
        for (int each = 0; each < 25; each++) {
            int cell = each;
            ask(drawing + " telling of no exit at " + cell,
                    () -> x.setExit(drawing, person, cell, false));
        }
        for (int each = 0; each < 6; each++) {
            int other = each;
            ask(drawing + " referring no more to " + other,
                    () -> x.refer(drawing, person, other, false));
        }
    }
}
