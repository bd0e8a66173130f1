/** Promises 9 to 13: rooms, room, size, doorsOut, doorThatHelps. */
public final class RoomsTest {
    private static final int MIN = Integer.MIN_VALUE, MAX = Integer.MAX_VALUE;

    public static void main(String[] args) {
        oneRoom();
        allWalls();
        everySideIsBetweenItsCells();
        wallsThatEncloseNothing();
        doorsAndReferences();
        doorsOut();
        doorsOutGoFarAndShort();
        doorThatHelps();
        doorThatHelpsElsewhere();
        doorThatHelpsNot();
        eachCallLooksAnew();
        refusals();
        Check.end();
    }

    /** A drawing that tells the same of all sides, locked by person 0. */
    private static HousePlans plans(int what) {
        HousePlans x = new HousePlans();
        x.begin();
        x.lock(0, 0);
        for (int side = 0; side < 40; side++) {
            x.tell(0, 0, side, what);
        }
        return x;
    }

    private static void tellRow(HousePlans x, int first, int what) {
        for (int side = first; side < first + 5; side++) {
            x.tell(0, 0, side, what);
        }
    }

    private static void oneRoom() {
        for (int what : new int[] {HousePlans.NONE, HousePlans.OPEN}) {
            HousePlans x = plans(what);
            Check.due(1, "one room: rooms", () -> x.rooms(0));
            for (int each = 0; each < 25; each++) {
                int cell = each;
                Check.due(0, "one room: room", () -> x.room(0, cell));
                Check.due(25, "one room: size", () -> x.size(0, cell));
            }
        }
    }

    private static void allWalls() {
        for (int what : new int[] {HousePlans.WALL, HousePlans.DOOR}) {
            HousePlans x = plans(what);
            Check.due(25, "all apart: rooms", () -> x.rooms(0));
            for (int each = 0; each < 25; each++) {
                int cell = each;
                Check.due(cell, "all apart: room", () -> x.room(0, cell));
                Check.due(1, "all apart: size", () -> x.size(0, cell));
            }
        }
    }

    private static void everySideIsBetweenItsCells() {
        HousePlans x = plans(HousePlans.WALL);
        for (int row = 0; row < 5; row++) {
            for (int column = 0; column < 5; column++) {
                int cell = 5 * row + column;
                if (column < 4) {
                    joins(x, 4 * row + column, cell, cell + 1);
                }
                if (row < 4) {
                    joins(x, 20 + 5 * row + column, cell, cell + 5);
                }
            }
        }
    }

    private static void joins(HousePlans x, int side, int one, int other) {
        x.tell(0, 0, side, HousePlans.OPEN);
        Check.due(24, "joined by side " + side + ": rooms", () -> x.rooms(0));
        Check.due(one, "joined by side " + side + ": room", () -> x.room(0, other));
        Check.due(2, "joined by side " + side + ": size", () -> x.size(0, one));
        Check.due(2, "joined by side " + side + ": size", () -> x.size(0, other));
        x.tell(0, 0, side, HousePlans.WALL);
    }

    private static void wallsThatEncloseNothing() {
        HousePlans x = plans(HousePlans.NONE);
        tellRow(x, 30, HousePlans.WALL);
        x.tell(0, 0, 34, HousePlans.NONE);
        Check.due(1, "a gap: rooms", () -> x.rooms(0));
        Check.due(25, "a gap: size", () -> x.size(0, 24));
        x.tell(0, 0, 34, HousePlans.DOOR);
        Check.due(2, "no gap: rooms", () -> x.rooms(0));
        Check.due(15, "no gap: room", () -> x.room(0, 24));
        Check.due(10, "no gap: size below", () -> x.size(0, 15));
        Check.due(15, "no gap: size above", () -> x.size(0, 14));
    }

    private static void doorsAndReferences() {
        HousePlans x = plans(HousePlans.WALL);
        x.begin();
        x.lock(1, 1);
        Check.due(1, "not yet referring: rooms", () -> x.rooms(1));
        x.refer(1, 1, 0, true);
        Check.due(25, "referring: rooms", () -> x.rooms(1));
        x.tell(1, 1, 0, HousePlans.OPEN);
        Check.due(24, "telling itself: rooms", () -> x.rooms(1));
        Check.due(0, "telling itself: room", () -> x.room(1, 1));
        Check.due(25, "the one below: rooms", () -> x.rooms(0));
        Check.due(-1, "no exit yet", () -> x.doorsOut(1, 1));
        x.setExit(0, 0, 0, true);
        Check.due(0, "an exit by reference", () -> x.doorsOut(1, 1));
        Check.due(-1, "a wall in the one below", () -> x.doorsOut(0, 1));
    }

    private static void doorsOut() {
        HousePlans x = plans(HousePlans.NONE);
        Check.due(-1, "no exit: doorsOut", () -> x.doorsOut(0, 0));
        x.setExit(0, 0, 24, true);
        Check.due(0, "an exit: doorsOut", () -> x.doorsOut(0, 0));
        tellRow(x, 20, HousePlans.WALL);
        Check.due(-1, "walled off: doorsOut", () -> x.doorsOut(0, 4));
        Check.due(0, "with the exit: doorsOut", () -> x.doorsOut(0, 5));
        x.tell(0, 0, 21, HousePlans.DOOR);
        Check.due(1, "beside it: doorsOut", () -> x.doorsOut(0, 4));
        tellRow(x, 25, HousePlans.WALL);
        Check.due(-1, "neither has one", () -> x.doorsOut(0, 4));
        x.tell(0, 0, 25, HousePlans.DOOR);
        Check.due(2, "beside one beside it: doorsOut", () -> x.doorsOut(0, 4));
        Check.due(1, "the one between: doorsOut", () -> x.doorsOut(0, 9));
        x.setExit(0, 0, 2, true);
        Check.due(0, "two exits: doorsOut", () -> x.doorsOut(0, 4));
        Check.due(1, "two exits, between: doorsOut", () -> x.doorsOut(0, 9));
        x.setExit(0, 0, 24, false);
        Check.due(2, "the other way: doorsOut", () -> x.doorsOut(0, 24));
    }

    /** All cells in one chain of doors, back and forth over the rows; then short cuts. */
    private static void doorsOutGoFarAndShort() {
        HousePlans x = plans(HousePlans.DOOR);
        for (int row = 0; row < 4; row++) {
            tellRow(x, 20 + 5 * row, HousePlans.WALL);
            x.tell(0, 0, 20 + 5 * row + (row % 2 == 0 ? 4 : 0), HousePlans.DOOR);
        }
        x.setExit(0, 0, 24, true);
        for (int row = 0; row < 5; row++) {
            for (int column = 0; column < 5; column++) {
                int cell = 5 * row + column;
                int along = 5 * row + (row % 2 == 0 ? column : 4 - column);
                Check.due(24 - along, "chain: doorsOut of " + cell, () -> x.doorsOut(0, cell));
            }
        }
        x.tell(0, 0, 20, HousePlans.DOOR);
        Check.due(16, "a short cut: doorsOut", () -> x.doorsOut(0, 0));
        Check.due(17, "before the short cut: doorsOut", () -> x.doorsOut(0, 1));
        Check.due(20, "at the corner: doorsOut", () -> x.doorsOut(0, 4));
        x.tell(0, 0, 20, HousePlans.OPEN);
        Check.due(16, "an open one costs nothing: doorsOut", () -> x.doorsOut(0, 1));
        x.tell(0, 0, 0, HousePlans.OPEN);
        Check.due(15, "a door within the room is none", () -> x.doorsOut(0, 1));
    }

    private static void doorThatHelps() {
        HousePlans x = plans(HousePlans.NONE);
        tellRow(x, 25, HousePlans.WALL);
        Check.due(-1, "no exit anywhere", () -> x.doorThatHelps(0, 0));
        x.setExit(0, 0, 20, true);
        Check.due(25, "the lowest wall", () -> x.doorThatHelps(0, 9));
        Check.due(-1, "it has a way out", () -> x.doorThatHelps(0, 10));
        x.tell(0, 0, 25, HousePlans.DOOR);
        Check.due(-1, "it has a way out by a door", () -> x.doorThatHelps(0, 9));
        x.tell(0, 0, 25, HousePlans.WALL);
        x.tell(0, 0, 8, HousePlans.WALL);
        x.tell(0, 0, 0, HousePlans.WALL);
        Check.due(25, "a wall within a room helps nobody", () -> x.doorThatHelps(0, 9));
    }

    private static void doorThatHelpsElsewhere() {
        HousePlans x = plans(HousePlans.NONE);
        tellRow(x, 20, HousePlans.WALL);
        tellRow(x, 25, HousePlans.WALL);
        x.setExit(0, 0, 12, true);
        Check.due(-1, "too far for one door", () -> x.doorThatHelps(0, 0));
        Check.due(25, "near enough", () -> x.doorThatHelps(0, 5));
        x.tell(0, 0, 24, HousePlans.DOOR);
        Check.due(25, "a wall of the room beside it", () -> x.doorThatHelps(0, 0));
        x.setExit(0, 0, 12, false);
        x.setExit(0, 0, 0, true);
        Check.due(25, "by the room with the exit", () -> x.doorThatHelps(0, 24));
        x.tell(0, 0, 24, HousePlans.WALL);
        x.tell(0, 0, 29, HousePlans.DOOR);
        Check.due(20, "a lower wall elsewhere", () -> x.doorThatHelps(0, 24));
        Check.due(20, "its own wall", () -> x.doorThatHelps(0, 9));
    }

    private static void doorThatHelpsNot() {
        HousePlans x = plans(HousePlans.WALL);
        x.setExit(0, 0, 24, true);
        Check.due(-1, "cell 0", () -> x.doorThatHelps(0, 0));
        Check.due(19, "cell 23", () -> x.doorThatHelps(0, 23));
        Check.due(39, "cell 19", () -> x.doorThatHelps(0, 19));
        Check.due(-1, "cell 18", () -> x.doorThatHelps(0, 18));
        Check.due(-1, "cell 24", () -> x.doorThatHelps(0, 24));
        Check.due(1, "it changed nothing: side", () -> x.side(0, 19));
        Check.due(-1, "it changed nothing: doorsOut", () -> x.doorsOut(0, 23));
    }

    /** No call leans on what the one before it found, of this drawing or of another. */
    private static void eachCallLooksAnew() {
        HousePlans x = plans(HousePlans.WALL);
        x.begin();
        x.lock(1, 1);
        x.setExit(0, 0, 1, true);
        Check.due(25, "rooms", () -> x.rooms(0));
        Check.due(1, "rooms of the other", () -> x.rooms(1));
        Check.due(24, "room", () -> x.room(0, 24));
        Check.due(0, "room of the other", () -> x.room(1, 24));
        Check.due(1, "size", () -> x.size(0, 24));
        Check.due(25, "size of the other", () -> x.size(1, 24));
        Check.due(0, "doorsOut", () -> x.doorsOut(0, 1));
        Check.due(-1, "doorsOut of the other", () -> x.doorsOut(1, 1));
        Check.due(0, "doorThatHelps", () -> x.doorThatHelps(0, 0));
        Check.due(-1, "doorThatHelps of the other", () -> x.doorThatHelps(1, 0));
        x.tell(0, 0, 0, HousePlans.DOOR);
        Check.due(-1, "doorThatHelps after tell", () -> x.doorThatHelps(0, 0));
        x.setExit(0, 0, 1, false);
        Check.due(-1, "doorsOut after setExit", () -> x.doorsOut(0, 0));
        x.tell(0, 0, 0, HousePlans.OPEN);
        Check.due(2, "size after tell", () -> x.size(0, 0));
        x.tell(0, 0, 0, HousePlans.WALL);
        Check.due(1, "room after tell", () -> x.room(0, 1));
    }

    private static void refusals() {
        HousePlans x = plans(HousePlans.NONE);
        for (int bad : new int[] {-1, 1, 6, MIN, MAX}) {
            Check.missing("rooms", () -> x.rooms(bad));
            Check.missing("room", () -> x.room(bad, 25));
            Check.missing("size", () -> x.size(bad, 25));
            Check.missing("doorsOut", () -> x.doorsOut(bad, 25));
            Check.missing("doorThatHelps", () -> x.doorThatHelps(bad, 25));
        }
        for (int bad : new int[] {-1, 25, MIN, MAX}) {
            Check.outOfRange("room", () -> x.room(0, bad));
            Check.outOfRange("size", () -> x.size(0, bad));
            Check.outOfRange("doorsOut", () -> x.doorsOut(0, bad));
            Check.outOfRange("doorThatHelps", () -> x.doorThatHelps(0, bad));
        }
    }
}
