import java.util.ArrayList;
import java.util.Arrays;

/**
 * Plans of a house under many hands: drawings of walls and doors that refer to one another, rooms
 * that follow from them, with loads and ways out, locks that are lent, permits that hold a state of
 * a drawing, and prints by which an old one is known.
 *
 * <p>Where several exceptions apply, the one that a method lists first is thrown, and a call that
 * throws changes nothing: so each method tests its arguments in the order of its list before it
 * does anything.
 */
public final class HousePlans {
    /** There is none; a side that is nothing. */
    public static final int NONE = -1;

    /** What sides are. */
    public static final int OPEN = 0, WALL = 1, DOOR = 2;

    private static final int PEOPLE = 6;
    private static final int COLUMNS = 5;
    private static final int CELLS = 25;
    private static final int SIDES = 40;
    private static final int SIDES_IN_A_ROW = 4;
    private static final int SIDES_WITHIN_ROWS = 20;
    private static final int MOST_DRAWINGS = 6;
    private static final int MOST_PERMITS = 20;
    private static final int MOST_PRINTS = 30;

    private final ArrayList<Drawing> drawingList = new ArrayList<>();
    private final ArrayList<Permit> permitList = new ArrayList<>();
    private final ArrayList<Print> printList = new ArrayList<>();
    private final Floor floor = new Floor();

    /** No drawings. */
    public HousePlans() {
    }

    // ---- drawings

    /** Begins a drawing that tells nothing, and is not locked; returns its number. */
    public int begin() throws IllegalStateException {
        int number = drawingList.size();
        if (number >= MOST_DRAWINGS) {
            throw new IllegalStateException("there are 6 drawings");
        }
        drawingList.add(new Drawing());
        return number;
    }

    /** Tells of a side, or nothing any more; returns what the drawing told of it before. */
    public int tell(int drawing, int person, int side, int what)
            throws IndexOutOfBoundsException, IllegalArgumentException, IllegalStateException {
        Drawing changed = drawingAt(drawing);
        needPerson(person);
        needSide(side);
        if (what < NONE || what > DOOR) {
            throw new IllegalArgumentException("a side is not that");
        }
        needChanger(changed, person);
        int before = changed.told[side];
        changed.told[side] = what;
        return before;
    }

    /** Tells whether a cell has an exit; returns whether the drawing told so before. */
    public boolean setExit(int drawing, int person, int cell, boolean has)
            throws IndexOutOfBoundsException, IllegalArgumentException, IllegalStateException {
        Drawing changed = drawingAt(drawing);
        needPerson(person);
        needCell(cell);
        needChanger(changed, person);
        boolean before = changed.toldExits[cell];
        changed.toldExits[cell] = has;
        return before;
    }

    /** Lets a drawing refer to another one, or not any more; returns whether it did. */
    public boolean refer(int drawing, int person, int other, boolean does)
            throws IndexOutOfBoundsException, IllegalArgumentException, IllegalStateException {
        Drawing changed = drawingAt(drawing);
        Drawing named = drawingAt(other);
        needPerson(person);
        needChanger(changed, person);
        if (does && named.leadsTo(changed)) {
            throw new IllegalStateException("a drawing would refer to itself");
        }
        boolean before = changed.others[other] != null;
        changed.others[other] = does ? named : null;
        return before;
    }

    /** Returns the number of drawings. */
    public int drawings() {
        return drawingList.size();
    }

    /** Returns what a side is in a drawing; NONE for nothing. */
    public int side(int drawing, int side)
            throws IndexOutOfBoundsException, IllegalArgumentException {
        Drawing asked = drawingAt(drawing);
        needSide(side);
        return asked.sideNow(side);
    }

    /** Tells whether a cell has an exit in a drawing. */
    public boolean hasExit(int drawing, int cell)
            throws IndexOutOfBoundsException, IllegalArgumentException {
        Drawing asked = drawingAt(drawing);
        needCell(cell);
        return asked.exitNow(cell);
    }

    // ---- rooms

    /** Returns the number of rooms of a drawing. */
    public int rooms(int drawing) throws IndexOutOfBoundsException {
        floor.lookAt(drawingAt(drawing));
        return floor.countRooms();
    }

    /** Returns the name of the room in which a cell is: its lowest cell. */
    public int room(int drawing, int cell)
            throws IndexOutOfBoundsException, IllegalArgumentException {
        Drawing asked = drawingAt(drawing);
        needCell(cell);
        floor.lookAt(asked);
        return floor.roomOf[cell];
    }

    /** Returns how many cells the room has in which a cell is. */
    public int size(int drawing, int cell)
            throws IndexOutOfBoundsException, IllegalArgumentException {
        Drawing asked = drawingAt(drawing);
        needCell(cell);
        floor.lookAt(asked);
        return floor.countCells(floor.roomOf[cell]);
    }

    /** Returns through how many doors one goes at the least to a room with an exit, or NONE. */
    public int doorsOut(int drawing, int cell)
            throws IndexOutOfBoundsException, IllegalArgumentException {
        Drawing asked = drawingAt(drawing);
        needCell(cell);
        floor.lookAt(asked);
        return floor.doorsOutOf[floor.roomOf[cell]];
    }

    /** Returns the lowest wall that, as a door, would give the cell's room a way out, or NONE. */
    public int doorThatHelps(int drawing, int cell)
            throws IndexOutOfBoundsException, IllegalArgumentException {
        Drawing asked = drawingAt(drawing);
        needCell(cell);
        floor.lookAt(asked);
        return floor.wallThatHelps(floor.roomOf[cell]);
    }

    // ---- locks

    /** Locks a drawing. */
    public void lock(int drawing, int person)
            throws IndexOutOfBoundsException, IllegalArgumentException, IllegalStateException {
        Drawing locked = drawingAt(drawing);
        needPerson(person);
        if (locked.locker != NONE) {
            throw new IllegalStateException("the drawing is locked");
        }
        locked.locker = person;
    }

    /** Unlocks a drawing. */
    public void unlock(int drawing, int person)
            throws IndexOutOfBoundsException, IllegalArgumentException, IllegalStateException {
        Drawing locked = drawingAt(drawing);
        needPerson(person);
        needLocker(locked, person);
        if (locked.borrower != NONE) {
            throw new IllegalStateException("the lock is lent");
        }
        locked.locker = NONE;
    }

    /** Lends the lock of a drawing, or takes it back; returns to whom it was lent, or NONE. */
    public int lend(int drawing, int person, int other)
            throws IndexOutOfBoundsException, IllegalArgumentException, IllegalStateException {
        Drawing locked = drawingAt(drawing);
        needPerson(person);
        if (other != NONE) {
            needPerson(other);
        }
        if (person == other) {
            throw new IllegalArgumentException("nobody lends to himself");
        }
        needLocker(locked, person);
        int before = locked.borrower;
        locked.borrower = other;
        return before;
    }

    /** Returns the person who can change a drawing; NONE if there is none. */
    public int canChange(int drawing) throws IndexOutOfBoundsException {
        return drawingAt(drawing).changer();
    }

    // ---- permits and prints

    /** Grants a permit; returns its number. */
    public int grant(int drawing) throws IndexOutOfBoundsException, IllegalStateException {
        Drawing granted = drawingAt(drawing);
        int number = permitList.size();
        if (number >= MOST_PERMITS) {
            throw new IllegalStateException("there are 20 permits");
        }
        floor.lookAt(granted);
        if (!floor.everyRoomHasWayOut()) {
            throw new IllegalStateException("some room has no way out");
        }
        permitList.add(new Permit(granted));
        return number;
    }

    /** Tells whether a permit holds. */
    public boolean holds(int permit) throws IndexOutOfBoundsException {
        if (permit < 0 || permit >= permitList.size()) {
            throw new IndexOutOfBoundsException("no such permit");
        }
        return permitList.get(permit).isValid();
    }

    /** Makes a print; returns its number. */
    public int print(int drawing) throws IndexOutOfBoundsException, IllegalStateException {
        Drawing printed = drawingAt(drawing);
        int number = printList.size();
        if (number >= MOST_PRINTS) {
            throw new IllegalStateException("there are 30 prints");
        }
        printList.add(new Print(printed, highestPermit(printed)));
        return number;
    }

    /** Returns the permit that a print keeps; NONE if it keeps none. */
    public int permitOf(int print) throws IndexOutOfBoundsException {
        return printAt(print).permit;
    }

    /** Tells whether a print is good. */
    public boolean isGood(int print) throws IndexOutOfBoundsException {
        Print asked = printAt(print);
        return asked.permit != NONE && !asked.isOld();
    }

    /** Returns how many prints are old. */
    public int old() {
        int count = 0;
        for (int number = 0; number < printList.size(); number++) {
            if (printList.get(number).isOld()) {
                count++;
            }
        }
        return count;
    }

    // ---- what the calls above share

    private Drawing drawingAt(int number) {
        if (number < 0 || number >= drawingList.size()) {
            throw new IndexOutOfBoundsException("no such drawing");
        }
        return drawingList.get(number);
    }

    private Print printAt(int number) {
        if (number < 0 || number >= printList.size()) {
            throw new IndexOutOfBoundsException("no such print");
        }
        return printList.get(number);
    }

    /** The permit with the highest number for a drawing that holds now; NONE if there is none. */
    private int highestPermit(Drawing drawing) {
        for (int number = permitList.size() - 1; number >= 0; number--) {
            Permit permit = permitList.get(number);
            if (permit.drawing == drawing && permit.isValid()) {
                return number;
            }
        }
        return NONE;
    }

    private static void needPerson(int person) {
        if (person < 0 || person >= PEOPLE) {
            throw new IllegalArgumentException("no such person");
        }
    }

    private static void needSide(int side) {
        if (side < 0 || side >= SIDES) {
            throw new IllegalArgumentException("no such side");
        }
    }

    private static void needCell(int cell) {
        if (cell < 0 || cell >= CELLS) {
            throw new IllegalArgumentException("no such cell");
        }
    }

    private static void needChanger(Drawing drawing, int person) {
        if (drawing.changer() != person) {
            throw new IllegalStateException("the person cannot change the drawing");
        }
    }

    private static void needLocker(Drawing drawing, int person) {
        if (drawing.locker != person) {
            throw new IllegalStateException("the person has not locked the drawing");
        }
    }

    /** The left or upper one of the two cells at a side. */
    private static int firstCell(int side) {
        if (side < SIDES_WITHIN_ROWS) {
            return COLUMNS * (side / SIDES_IN_A_ROW) + side % SIDES_IN_A_ROW;
        }
        return side - SIDES_WITHIN_ROWS;
    }

    /** The right or lower one of the two cells at a side. */
    private static int secondCell(int side) {
        return firstCell(side) + (side < SIDES_WITHIN_ROWS ? 1 : COLUMNS);
    }

    /**
     * A drawing: what it tells itself, to which it refers, and who has its lock.
     *
     * <p>What follows over references is found anew whenever it is asked for, so nothing has to be
     * brought up to date. References never go in a circle, so a chain of them is shorter than
     * MOST_DRAWINGS; the depths below refuse what would be longer.
     */
    private static final class Drawing {
        private final int[] told = new int[SIDES];
        private final boolean[] toldExits = new boolean[CELLS];
        /** By number, so that the lowest comes first; null where it does not refer. */
        private final Drawing[] others = new Drawing[MOST_DRAWINGS];
        private int locker = NONE;
        /** To whom the lock is lent: a person only while there is a locker. */
        private int borrower = NONE;

        private Drawing() {
            Arrays.fill(told, NONE);
        }

        private int changer() {
            return borrower != NONE ? borrower : locker;
        }

        private int sideNow(int side) {
            return sideIn(this, side, 0);
        }

        private boolean exitNow(int cell) {
            return exitIn(this, cell, 0);
        }

        /** Tells whether it is that drawing, or refers to it, over others or not. */
        private boolean leadsTo(Drawing that) {
            return leads(this, that, 0);
        }

        private static int sideIn(Drawing drawing, int side, int depth) {
            if (drawing.told[side] != NONE || depth >= MOST_DRAWINGS) {
                return drawing.told[side];
            }
            for (Drawing other : drawing.others) {
                int what = other == null ? NONE : sideIn(other, side, depth + 1);
                if (what != NONE) {
                    return what;
                }
            }
            return NONE;
        }

        private static boolean exitIn(Drawing drawing, int cell, int depth) {
            if (drawing.toldExits[cell] || depth >= MOST_DRAWINGS) {
                return drawing.toldExits[cell];
            }
            for (Drawing other : drawing.others) {
                if (other != null && exitIn(other, cell, depth + 1)) {
                    return true;
                }
            }
            return false;
        }

        private static boolean leads(Drawing from, Drawing to, int depth) {
            if (from == to || depth >= MOST_DRAWINGS) {
                return from == to;
            }
            for (Drawing other : from.others) {
                if (other != null && leads(other, to, depth + 1)) {
                    return true;
                }
            }
            return false;
        }
    }

    /** What all sides and exits of a drawing were when it was looked at last. */
    private static final class State {
        private final int[] sides = new int[SIDES];
        private final boolean[] exits = new boolean[CELLS];

        private void takeFrom(Drawing drawing) {
            for (int side = 0; side < SIDES; side++) {
                sides[side] = drawing.sideNow(side);
            }
            for (int cell = 0; cell < CELLS; cell++) {
                exits[cell] = drawing.exitNow(cell);
            }
        }

        private boolean isThatOf(Drawing drawing) {
            for (int side = 0; side < SIDES; side++) {
                if (sides[side] != drawing.sideNow(side)) {
                    return false;
                }
            }
            for (int cell = 0; cell < CELLS; cell++) {
                if (exits[cell] != drawing.exitNow(cell)) {
                    return false;
                }
            }
            return true;
        }
    }

    /** A permit for a drawing, with the state that it keeps. */
    private static final class Permit {
        private final Drawing drawing;
        private final State kept = new State();

        private Permit(Drawing drawing) {
            this.drawing = drawing;
            kept.takeFrom(drawing);
        }

        private boolean isValid() {
            return kept.isThatOf(drawing);
        }
    }

    /** A print of a drawing, with the state and the permit that it keeps. */
    private static final class Print {
        private final Drawing drawing;
        private final State kept = new State();
        private final int permit;

        private Print(Drawing drawing, int permit) {
            this.drawing = drawing;
            this.permit = permit;
            kept.takeFrom(drawing);
        }

        private boolean isOld() {
            return !kept.isThatOf(drawing);
        }
    }

    /**
     * The rooms of the drawing that was looked at last. There is one for all calls, so that its
     * rows are made once; each call that asks about rooms looks anew.
     */
    private static final class Floor {
        private final State state = new State();
        /** Of each cell, the name of its room. */
        private final int[] roomOf = new int[CELLS];
        /** Of each room's name, the doors to a room with an exit; NONE without a way out. */
        private final int[] doorsOutOf = new int[CELLS];
        /** Of each room's name, the doors to the room that asks for help; NONE if none lead. */
        private final int[] doorsFrom = new int[CELLS];

        private void lookAt(Drawing drawing) {
            state.takeFrom(drawing);
            findRooms();
            findWaysOut();
        }

        private void findRooms() {
            for (int cell = 0; cell < CELLS; cell++) {
                roomOf[cell] = cell;
            }
            for (int side = 0; side < SIDES; side++) {
                if (state.sides[side] == NONE || state.sides[side] == OPEN) {
                    join(roomOf[firstCell(side)], roomOf[secondCell(side)]);
                }
            }
        }

        /** Makes two rooms one; the lower name stays, so it is always that of the lowest cell. */
        private void join(int one, int other) {
            int lower = Math.min(one, other);
            int higher = Math.max(one, other);
            for (int cell = 0; cell < CELLS; cell++) {
                if (roomOf[cell] == higher) {
                    roomOf[cell] = lower;
                }
            }
        }

        private void findWaysOut() {
            Arrays.fill(doorsOutOf, NONE);
            for (int cell = 0; cell < CELLS; cell++) {
                if (state.exits[cell]) {
                    doorsOutOf[roomOf[cell]] = 0;
                }
            }
            goThroughDoors(doorsOutOf);
        }

        /**
         * Finds, from the rooms at 0, the fewest doors to each other room, and leaves NONE where
         * none lead. A way with the fewest doors meets no room twice, so it has fewer doors than
         * there are cells.
         */
        private void goThroughDoors(int[] doors) {
            boolean further = true;
            for (int gone = 0; further && gone < CELLS; gone++) {
                further = false;
                for (int side = 0; side < SIDES; side++) {
                    if (state.sides[side] == DOOR) {
                        int one = roomOf[firstCell(side)];
                        int other = roomOf[secondCell(side)];
                        if (goThrough(doors, one, other, gone)
                                || goThrough(doors, other, one, gone)) {
                            further = true;
                        }
                    }
                }
            }
        }

        private static boolean goThrough(int[] doors, int from, int to, int gone) {
            if (doors[from] != gone || doors[to] != NONE) {
                return false;
            }
            doors[to] = gone + 1;
            return true;
        }

        private int countRooms() {
            int count = 0;
            for (int cell = 0; cell < CELLS; cell++) {
                if (roomOf[cell] == cell) {
                    count++;
                }
            }
            return count;
        }

        private int countCells(int room) {
            int count = 0;
            for (int cell = 0; cell < CELLS; cell++) {
                if (roomOf[cell] == room) {
                    count++;
                }
            }
            return count;
        }

        private boolean everyRoomHasWayOut() {
            for (int cell = 0; cell < CELLS; cell++) {
                if (doorsOutOf[roomOf[cell]] == NONE) {
                    return false;
                }
            }
            return true;
        }

        /**
         * The lowest wall between a room that doors join to this one and a room with a way out;
         * NONE if there is none, or this one has a way out: then so have all that doors join to it.
         */
        private int wallThatHelps(int room) {
            if (doorsOutOf[room] != NONE) {
                return NONE;
            }
            Arrays.fill(doorsFrom, NONE);
            doorsFrom[room] = 0;
            goThroughDoors(doorsFrom);
            for (int side = 0; side < SIDES; side++) {
                int one = roomOf[firstCell(side)];
                int other = roomOf[secondCell(side)];
                if (state.sides[side] == WALL && (leadsOut(one, other) || leadsOut(other, one))) {
                    return side;
                }
            }
            return NONE;
        }

        private boolean leadsOut(int from, int to) {
            return doorsFrom[from] != NONE && doorsOutOf[to] != NONE;
        }
    }
}
