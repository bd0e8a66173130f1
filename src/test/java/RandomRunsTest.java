import java.util.Random;

/**
 * Long runs of calls, drawn from seeds that are written here, so that they are always the same;
 * each answer is compared with the Model's. After each call that may change something, a few
 * questions are put, so that a call that changed too much is found.
 */
public final class RandomRunsTest {
    private static final String INDEX = "IndexOutOfBoundsException";
    private static final String ARGUMENT = "IllegalArgumentException";
    private static final String STATE = "IllegalStateException";

    private final HousePlans x = new HousePlans();
    private final Model model = new Model();
    private final Random random;
    private final String run;

    private RandomRunsTest(int seed) {
        random = new Random(seed);
        run = "run " + seed + ": ";
    }

    public static void main(String[] args) {
        for (int seed = 0; seed < 300; seed++) {
            new RandomRunsTest(seed).go();
        }
        Check.end();
    }

    private void go() {
        int walls = random.nextInt(3);
        for (int call = 0; call < 400; call++) {
            int kind = random.nextInt(20);
            if (kind < 2) {
                begin();
            } else if (kind < 8) {
                tell(walls);
            } else if (kind < 9) {
                setExit();
            } else if (kind < 12) {
                refer();
            } else if (kind < 15) {
                locks();
            } else if (kind < 18) {
                rooms();
            } else {
                permits();
            }
            ask();
        }
    }

    /** A number from 0 to below, seldom one that is out of range. */
    private int number(int below) {
        int odd = random.nextInt(60);
        return odd == 0 ? -1 : odd == 1 ? below : random.nextInt(Math.max(1, below));
    }

    /** Mostly the person who can change the drawing. */
    private int person(int drawing) {
        boolean able = isDrawing(drawing) && model.changer(drawing) >= 0 && random.nextInt(8) > 0;
        return able ? model.changer(drawing) : number(6);
    }

    private boolean isDrawing(int drawing) {
        return drawing >= 0 && drawing < model.drawings;
    }

    private static boolean within(int number, int below) {
        return number >= 0 && number < below;
    }

    private void begin() {
        if (model.drawings == 6) {
            Check.due(STATE, run + "begin", () -> x.begin());
        } else {
            Check.due(model.drawings, run + "begin", () -> x.begin());
            model.drawings++;
        }
    }

    private void tell(int walls) {
        int drawing = number(model.drawings);
        int person = person(drawing);
        int side = number(40);
        int what = random.nextInt(30) == 0 ? number(3) : random.nextInt(2 + walls) - 1;
        what = what == 3 || walls == 2 && what == 0 ? 1 : what;
        int told = random.nextInt(40) == 0 ? random.nextInt(2) * 5 - 2 : what;
        Object due;
        if (!isDrawing(drawing)) {
            due = INDEX;
        } else if (!within(person, 6) || !within(side, 40) || told < -1 || told > 2) {
            due = ARGUMENT;
        } else if (model.changer(drawing) != person) {
            due = STATE;
        } else {
            due = model.told[drawing][side];
            model.told[drawing][side] = told;
        }
        Check.due(due, run + "tell", () -> x.tell(drawing, person, side, told));
    }

    private void setExit() {
        int drawing = number(model.drawings);
        int person = person(drawing);
        int cell = number(25);
        boolean has = random.nextInt(5) == 0;
        Object due;
        if (!isDrawing(drawing)) {
            due = INDEX;
        } else if (!within(person, 6) || !within(cell, 25)) {
            due = ARGUMENT;
        } else if (model.changer(drawing) != person) {
            due = STATE;
        } else {
            due = model.exits[drawing][cell];
            model.exits[drawing][cell] = has;
        }
        Check.due(due, run + "setExit", () -> x.setExit(drawing, person, cell, has));
    }

    private void refer() {
        int drawing = number(model.drawings);
        int person = person(drawing);
        int other = number(model.drawings);
        boolean does = random.nextInt(3) > 0;
        Object due;
        if (!isDrawing(drawing) || !isDrawing(other)) {
            due = INDEX;
        } else if (!within(person, 6)) {
            due = ARGUMENT;
        } else if (model.changer(drawing) != person
                || does && model.asked(other).contains(drawing)) {
            due = STATE;
        } else {
            due = model.refers[drawing][other];
            model.refers[drawing][other] = does;
        }
        Check.due(due, run + "refer", () -> x.refer(drawing, person, other, does));
    }

    private void locks() {
        int drawing = number(model.drawings);
        int person = random.nextInt(3) == 0 ? number(6)
                : isDrawing(drawing) && model.locker[drawing] >= 0 ? model.locker[drawing] : 0;
        int other = random.nextInt(8) - 1;
        int kind = random.nextInt(8);
        Object due = !isDrawing(drawing) ? INDEX : !within(person, 6) ? ARGUMENT : STATE;
        boolean allowed = due.equals(STATE);
        if (kind < 4) {
            if (allowed && model.locker[drawing] == -1) {
                due = "nothing";
                model.locker[drawing] = person;
            }
            Check.due(due, run + "lock", () -> lock(drawing, person));
        } else if (kind < 5) {
            if (allowed && model.locker[drawing] == person && model.borrower[drawing] == -1) {
                due = "nothing";
                model.locker[drawing] = -1;
            }
            Check.due(due, run + "unlock", () -> unlock(drawing, person));
        } else {
            if (allowed && (other > 5 || other == person)) {
                due = ARGUMENT;
            } else if (allowed && model.locker[drawing] == person) {
                due = model.borrower[drawing];
                model.borrower[drawing] = other;
            }
            Check.due(due, run + "lend", () -> x.lend(drawing, person, other));
        }
    }

    private Object lock(int drawing, int person) {
        x.lock(drawing, person);
        return "nothing";
    }

    private Object unlock(int drawing, int person) {
        x.unlock(drawing, person);
        return "nothing";
    }

    private void rooms() {
        int drawing = number(model.drawings);
        int cell = number(25);
        Object refused = !isDrawing(drawing) ? INDEX : !within(cell, 25) ? ARGUMENT : null;
        Check.due(isDrawing(drawing) ? model.names(drawing).size() : INDEX, run + "rooms",
                () -> x.rooms(drawing));
        int[] sides = refused == null ? model.sides(drawing) : null;
        Check.due(refused == null ? model.roomOf(sides, cell).first() : refused, run + "room",
                () -> x.room(drawing, cell));
        Check.due(refused == null ? model.roomOf(sides, cell).size() : refused, run + "size",
                () -> x.size(drawing, cell));
        Check.due(refused == null ? model.doorsOut(sides, drawing, cell) : refused,
                run + "doorsOut", () -> x.doorsOut(drawing, cell));
        Check.due(refused == null ? model.doorThatHelps(drawing, cell) : refused,
                run + "doorThatHelps", () -> x.doorThatHelps(drawing, cell));
    }

    private void permits() {
        int drawing = number(model.drawings);
        Object due = INDEX;
        if (random.nextInt(5) > 1) {
            if (isDrawing(drawing)) {
                due = STATE;
                if (model.permits.size() < 20 && model.allGetOut(drawing)) {
                    due = model.permits.size();
                    model.permits.add(model.picture(drawing));
                }
            }
            Check.due(due, run + "grant", () -> x.grant(drawing));
        } else {
            if (isDrawing(drawing)) {
                due = model.prints.size() < 30 ? (Object) model.print(drawing) : STATE;
            }
            Check.due(due, run + "print", () -> x.print(drawing));
        }
    }

    private void ask() {
        int drawing = number(model.drawings);
        int side = number(40);
        int cell = number(25);
        boolean is = isDrawing(drawing);
        Check.due(model.drawings, run + "drawings", () -> x.drawings());
        Check.due(is ? model.changer(drawing) : INDEX, run + "canChange",
                () -> x.canChange(drawing));
        Check.due(!is ? INDEX : !within(side, 40) ? ARGUMENT : model.sides(drawing)[side],
                run + "side", () -> x.side(drawing, side));
        Check.due(!is ? INDEX : !within(cell, 25) ? ARGUMENT : model.hasExit(drawing, cell),
                run + "hasExit", () -> x.hasExit(drawing, cell));
        askPermits();
    }

    private void askPermits() {
        int permit = number(model.permits.size());
        int print = number(model.prints.size());
        boolean isPermit = within(permit, model.permits.size());
        boolean isPrint = within(print, model.prints.size());
        Check.due(isPermit ? model.isNow(model.permits.get(permit)) : INDEX, run + "holds",
                () -> x.holds(permit));
        Check.due(isPrint ? model.permitsOfPrints.get(print) : INDEX, run + "permitOf",
                () -> x.permitOf(print));
        Check.due(isPrint ? model.permitsOfPrints.get(print) >= 0
                && model.isNow(model.prints.get(print)) : INDEX, run + "isGood",
                () -> x.isGood(print));
        if (random.nextInt(5) == 0) {
            Check.due(model.old(), run + "old", () -> x.old());
        }
    }
}
