import java.util.Random;

/**
 * Long runs of calls, drawn from seeds that are written here, so that they are always the same;
 * each answer is compared with the Model's. After each call some questions are put, so that a call
 * that changed too much is found.
 */
public final class RandomRunsTest {
    private static final String INDEX = "IndexOutOfBoundsException";
    private static final String ARGUMENT = "IllegalArgumentException";
    private static final String STATE = "IllegalStateException";

    private final HousePlans x = new HousePlans();
    private final Model model = new Model();
    private final Random random;
    private final String run;
    private int calls;

    private RandomRunsTest(int seed) {
        random = new Random(seed);
        run = "run " + seed + ": ";
    }

    public static void main(String[] args) {
        for (int seed = 0; seed < 400; seed++) {
            new RandomRunsTest(seed).go();
        }
        Check.end();
    }

    /** Ends before the 512th call, behind which nothing is promised. */
    private void go() {
        prepare();
        while (calls < 500) {
            int kind = random.nextInt(20);
            if (kind < 1) {
                begin();
            } else if (kind < 6) {
                tell();
            } else if (kind < 8) {
                setExit();
            } else if (kind < 11) {
                refer();
            } else if (kind < 13) {
                locks();
            } else if (kind < 16) {
                rooms();
            } else {
                permits();
            }
            if (random.nextBoolean()) {
                askDrawings();
            } else {
                askPermits();
            }
        }
    }

    /** Some locked drawings; in some runs they tell of few sides, in others of most. */
    private void prepare() {
        for (int count = 1 + random.nextInt(6); count > 0; count--) {
            begin();
        }
        for (int each = 0; each < model.drawings; each++) {
            int drawing = each;
            int person = random.nextInt(6);
            model.locker[drawing] = person;
            due("nothing", "lock", () -> lock(drawing, person));
        }
        for (int count = random.nextInt(4) * 50; count > 0; count--) {
            tell();
        }
    }

    private void due(Object due, String what, Check.Call call) {
        calls++;
        Check.due(due, run + what, call);
    }

    /** A number from 0 to below, seldom one that is out of range. */
    private int number(int below) {
        int odd = random.nextInt(60);
        return odd == 0 ? -1 : odd == 1 ? below : random.nextInt(Math.max(1, below));
    }

    /** Often drawing 0, so that it comes to tell much. */
    private int drawing() {
        return model.drawings > 0 && random.nextInt(5) < 2 ? 0 : number(model.drawings);
    }

    /** Mostly the person who can change the drawing. */
    private int person(int drawing) {
        boolean able = isDrawing(drawing) && model.changer(drawing) >= 0 && random.nextInt(8) > 0;
        return able ? model.changer(drawing) : number(6);
    }

    private boolean isDrawing(int drawing) {
        return drawing >= 0 && drawing < model.drawings;
    }

    private static boolean within(int number, int below) {
        return number >= 0 && number < below;
    }

    private void begin() {
        if (model.drawings == 6) {
            due(STATE, "begin", () -> x.begin());
        } else {
            due(model.drawings, "begin", () -> x.begin());
            model.drawings++;
        }
    }

    private void tell() {
        int drawing = drawing();
        int person = person(drawing);
        int side = number(40);
        int odd = random.nextInt(60);
        int told = odd == 0 ? -2 : odd == 1 ? 3 : mostlyWall();
        Object due;
        if (!isDrawing(drawing)) {
            due = INDEX;
        } else if (!within(person, 6) || !within(side, 40) || told < -1 || told > 2) {
            due = ARGUMENT;
        } else if (model.changer(drawing) != person) {
            due = STATE;
        } else {
            due = model.told[drawing][side];
            model.told[drawing][side] = told;
        }
        due(due, "tell", () -> x.tell(drawing, person, side, told));
    }

    private int mostlyWall() {
        int drawn = random.nextInt(20);
        return drawn < 2 ? HousePlans.NONE : drawn < 4 ? HousePlans.OPEN
                : drawn < 8 ? HousePlans.DOOR : HousePlans.WALL;
    }

    private void setExit() {
        int drawing = drawing();
        int person = person(drawing);
        int cell = number(25);
        boolean has = random.nextInt(3) > 0;
        Object due;
        if (!isDrawing(drawing)) {
            due = INDEX;
        } else if (!within(person, 6) || !within(cell, 25)) {
            due = ARGUMENT;
        } else if (model.changer(drawing) != person) {
            due = STATE;
        } else {
            due = model.exits[drawing][cell];
            model.exits[drawing][cell] = has;
        }
        due(due, "setExit", () -> x.setExit(drawing, person, cell, has));
    }

    private void refer() {
        int drawing = drawing();
        int person = person(drawing);
        int other = number(model.drawings);
        boolean does = random.nextInt(3) > 0;
        Object due;
        if (!isDrawing(drawing) || !isDrawing(other)) {
            due = INDEX;
        } else if (!within(person, 6)) {
            due = ARGUMENT;
        } else if (model.changer(drawing) != person
                || does && model.asked(other).contains(drawing)) {
            due = STATE;
        } else {
            due = model.refers[drawing][other];
            model.refers[drawing][other] = does;
        }
        due(due, "refer", () -> x.refer(drawing, person, other, does));
    }

    private void locks() {
        int drawing = drawing();
        int person = random.nextInt(3) == 0 ? number(6)
                : isDrawing(drawing) && model.locker[drawing] >= 0 ? model.locker[drawing] : 0;
        int other = random.nextInt(8) - 1;
        int kind = random.nextInt(8);
        Object due = !isDrawing(drawing) ? INDEX : !within(person, 6) ? ARGUMENT : STATE;
        boolean allowed = due.equals(STATE);
        if (kind < 4) {
            if (allowed && model.locker[drawing] == -1) {
                due = "nothing";
                model.locker[drawing] = person;
            }
            due(due, "lock", () -> lock(drawing, person));
        } else if (kind < 5) {
            if (allowed && model.locker[drawing] == person && model.borrower[drawing] == -1) {
                due = "nothing";
                model.locker[drawing] = -1;
            }
            due(due, "unlock", () -> unlock(drawing, person));
        } else {
            if (allowed && (other > 5 || other == person)) {
                due = ARGUMENT;
            } else if (allowed && model.locker[drawing] == person) {
                due = model.borrower[drawing];
                model.borrower[drawing] = other;
            }
            due(due, "lend", () -> x.lend(drawing, person, other));
        }
    }

    private Object lock(int drawing, int person) {
        x.lock(drawing, person);
        return "nothing";
    }

    private Object unlock(int drawing, int person) {
        x.unlock(drawing, person);
        return "nothing";
    }

    private void rooms() {
        int drawing = drawing();
        int cell = number(25);
        Object refused = !isDrawing(drawing) ? INDEX : !within(cell, 25) ? ARGUMENT : null;
        due(isDrawing(drawing) ? model.names(drawing).size() : INDEX, "rooms",
                () -> x.rooms(drawing));
        int[] sides = refused == null ? model.sides(drawing) : null;
        due(refused == null ? model.roomOf(sides, cell).first() : refused, "room",
                () -> x.room(drawing, cell));
        due(refused == null ? model.roomOf(sides, cell).size() : refused, "size",
                () -> x.size(drawing, cell));
        due(refused == null ? model.doorsOut(sides, drawing, cell) : refused,
                "doorsOut", () -> x.doorsOut(drawing, cell));
        due(refused == null ? model.doorThatHelps(drawing, cell) : refused,
                "doorThatHelps", () -> x.doorThatHelps(drawing, cell));
    }

    private void permits() {
        int drawing = drawing();
        Object due = INDEX;
        if (random.nextInt(5) > 1) {
            if (isDrawing(drawing)) {
                due = STATE;
                if (model.permits.size() < 20 && model.allGetOut(drawing)) {
                    due = model.permits.size();
                    model.permits.add(model.picture(drawing));
                }
            }
            due(due, "grant", () -> x.grant(drawing));
        } else {
            if (isDrawing(drawing)) {
                due = model.prints.size() < 30 ? (Object) model.print(drawing) : STATE;
            }
            due(due, "print", () -> x.print(drawing));
        }
    }

    private void askDrawings() {
        int drawing = drawing();
        int side = number(40);
        int cell = number(25);
        boolean is = isDrawing(drawing);
        due(model.drawings, "drawings", () -> x.drawings());
        due(is ? model.changer(drawing) : INDEX, "canChange",
                () -> x.canChange(drawing));
        due(!is ? INDEX : !within(side, 40) ? ARGUMENT : model.sides(drawing)[side],
                "side", () -> x.side(drawing, side));
        due(!is ? INDEX : !within(cell, 25) ? ARGUMENT : model.hasExit(drawing, cell),
                "hasExit", () -> x.hasExit(drawing, cell));
    }

    private void askPermits() {
        int permit = number(model.permits.size());
        int print = number(model.prints.size());
        boolean isPermit = within(permit, model.permits.size());
        boolean isPrint = within(print, model.prints.size());
        due(isPermit ? model.isNow(model.permits.get(permit)) : INDEX, "holds",
                () -> x.holds(permit));
        due(isPrint ? model.permitsOfPrints.get(print) : INDEX, "permitOf",
                () -> x.permitOf(print));
        due(isPrint ? model.permitsOfPrints.get(print) >= 0
                && model.isNow(model.prints.get(print)) : INDEX, "isGood",
                () -> x.isGood(print));
        if (random.nextInt(5) == 0) {
            due(model.old(), "old", () -> x.old());
        }
    }
}
