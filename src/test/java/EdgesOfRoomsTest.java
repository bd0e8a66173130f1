/** The section "Rooms" and the promises 9 to 13 at their edges, sentence by sentence. */
public final class EdgesOfRoomsTest {
    private static final String ARGUMENT = Whole.ARGUMENT;

    public static void main(String[] args) {
        roomsNeedsADrawing();
        roomNeedsNumbersInRange();
        sizeNeedsNumbersInRange();
        doorsOutNeedsNumbersInRange();
        doorThatHelpsNeedsNumbersInRange();
        roomsFromOneToTwentyFive();
        aSideThatIsNothingLetsOneThrough();
        rowsHaveSidesUpToTheirEnds();
        columnsHaveSidesUpToTheirEnds();
        theFirstAndLastSidesAreBetweenTheirCells();
        roomsAreTheGreatestSets();
        aRoomIsNamedByItsLowestCell();
        sizeFromOneToTwentyFive();
        roomsAreByTheDrawingsAsTheyAreNow();
        doorsOutFromNoneToTwentyFour();
        doorsOutGoesThroughTheFewest();
        aDoorWithinARoomLeadsNowhere();
        doorsOutIsNoneWithoutAWayOut();
        anExitOfAnyCellOfTheRoom();
        doorThatHelpsFromSideZeroToSideThirtyNine();
        doorThatHelpsIsNoneIfItHasAWayOut();
        doorThatHelpsIsNoneIfThereIsNone();
        doorThatHelpsOfThisRoomOrElsewhere();
        doorThatHelpsIsAWall();
        Check.end();
    }

    /** A drawing of walls alone, locked by person 0, but for these sides. */
    private static HousePlans walls(int what, int... sides) {
        HousePlans x = Houses.telling(HousePlans.WALL);
        tell(x, what, sides);
        return x;
    }

    private static void tell(HousePlans x, int what, int... sides) {
        for (int side : sides) {
            x.tell(0, 0, side, what);
        }
    }

    // ---- numbers that are out of range: promises 9 to 13

    private static void roomsNeedsADrawing() {
        Whole.noDrawing("rooms", (x, bad) -> x.rooms(bad));
        HousePlans x = Houses.full();
        Check.due(1, "rooms of the least", () -> x.rooms(0));
        Check.due(1, "rooms of the greatest", () -> x.rooms(5));
    }

    private static void roomNeedsNumbersInRange() {
        Whole.noDrawing("room", (x, bad) -> x.room(bad, 0));
        Whole.noDrawing("room at 25", (x, bad) -> x.room(bad, 25));
        Whole.outside(ARGUMENT, "room", Houses::lived, Whole.range(0, 24),
                (x, bad) -> x.room(0, bad));
        HousePlans x = walls(HousePlans.WALL);
        Check.due(0, "room of the least cell", () -> x.room(0, 0));
        Check.due(24, "room of the greatest cell", () -> x.room(0, 24));
        Check.due(0, "room in the greatest drawing", () -> Houses.full().room(5, 24));
    }

    private static void sizeNeedsNumbersInRange() {
        Whole.noDrawing("size", (x, bad) -> x.size(bad, 0));
        Whole.noDrawing("size at 25", (x, bad) -> x.size(bad, 25));
        Whole.outside(ARGUMENT, "size", Houses::lived, Whole.range(0, 24),
                (x, bad) -> x.size(0, bad));
        HousePlans x = walls(HousePlans.OPEN, 0, 39);
        Check.due(2, "size at the least cell", () -> x.size(0, 0));
        Check.due(2, "size at the greatest cell", () -> x.size(0, 24));
        Check.due(25, "size in the greatest drawing", () -> Houses.full().size(5, 24));
    }

    private static void doorsOutNeedsNumbersInRange() {
        Whole.noDrawing("doorsOut", (x, bad) -> x.doorsOut(bad, 0));
        Whole.noDrawing("doorsOut at 25", (x, bad) -> x.doorsOut(bad, 25));
        Whole.outside(ARGUMENT, "doorsOut", Houses::lived, Whole.range(0, 24),
                (x, bad) -> x.doorsOut(0, bad));
        HousePlans x = walls(HousePlans.DOOR, 0, 39);
        x.setExit(0, 0, 1, true);
        x.setExit(0, 0, 19, true);
        Check.due(1, "doorsOut at the least cell", () -> x.doorsOut(0, 0));
        Check.due(1, "doorsOut at the greatest cell", () -> x.doorsOut(0, 24));
        Check.due(0, "doorsOut in the greatest drawing", () -> Houses.full().doorsOut(5, 24));
    }

    private static void doorThatHelpsNeedsNumbersInRange() {
        Whole.noDrawing("doorThatHelps", (x, bad) -> x.doorThatHelps(bad, 0));
        Whole.noDrawing("doorThatHelps at 25", (x, bad) -> x.doorThatHelps(bad, 25));
        Whole.outside(ARGUMENT, "doorThatHelps", Houses::lived, Whole.range(0, 24),
                (x, bad) -> x.doorThatHelps(0, bad));
        HousePlans x = walls(HousePlans.WALL);
        x.setExit(0, 0, 1, true);
        x.setExit(0, 0, 19, true);
        Check.due(0, "doorThatHelps at the least cell", () -> x.doorThatHelps(0, 0));
        Check.due(39, "doorThatHelps at the greatest cell", () -> x.doorThatHelps(0, 24));
        Check.due(-1, "doorThatHelps in the greatest", () -> Houses.full().doorThatHelps(5, 24));
    }

    // ---- promise 9

    /** "Returns the number of rooms of a drawing.": one at the least, as many as cells at most. */
    private static void roomsFromOneToTwentyFive() {
        Check.due(1, "nothing: rooms", () -> Houses.begun(1).rooms(0));
        Check.due(1, "all OPEN: rooms", () -> Houses.telling(HousePlans.OPEN).rooms(0));
        Check.due(25, "all WALL: rooms", () -> Houses.telling(HousePlans.WALL).rooms(0));
        Check.due(25, "all DOOR: rooms", () -> Houses.telling(HousePlans.DOOR).rooms(0));
        for (int each = 0; each < 40; each++) {
            int side = each;
            HousePlans x = Houses.locked(1);
            x.tell(0, 0, side, HousePlans.WALL);
            Check.due(1, "only side " + side + " a WALL: rooms", () -> x.rooms(0));
            Check.due(24, "all but side " + side + " a WALL: rooms",
                    () -> walls(HousePlans.OPEN, side).rooms(0));
        }
    }

    /** "A side that is nothing lets one through as an OPEN one." */
    private static void aSideThatIsNothingLetsOneThrough() {
        for (int what : new int[] {HousePlans.NONE, HousePlans.OPEN}) {
            HousePlans x = walls(what, 39);
            Check.due(24, "through " + what + ": rooms", () -> x.rooms(0));
            Check.due(19, "through " + what + ": room", () -> x.room(0, 24));
        }
        for (int what : new int[] {HousePlans.WALL, HousePlans.DOOR}) {
            HousePlans x = walls(what, 39);
            Check.due(25, "not through " + what + ": rooms", () -> x.rooms(0));
            Check.due(24, "not through " + what + ": room", () -> x.room(0, 24));
        }
        HousePlans x = walls(HousePlans.WALL);
        x.begin();
        x.lock(1, 1);
        x.refer(1, 1, 0, true);
        Check.due(25, "nothing itself, but not nothing: rooms", () -> x.rooms(1));
    }

    /** "the side 4 * r + c is between the columns c and c + 1 of the row r, for c from 0 to 3" */
    private static void rowsHaveSidesUpToTheirEnds() {
        HousePlans x = Houses.telling(HousePlans.WALL);
        for (int side = 0; side < 20; side++) {
            x.tell(0, 0, side, HousePlans.OPEN);
        }
        Check.due(5, "rows: rooms", () -> x.rooms(0));
        for (int each = 0; each < 25; each++) {
            int cell = each;
            Check.due(cell / 5 * 5, "rows: room of " + cell, () -> x.room(0, cell));
            Check.due(5, "rows: size at " + cell, () -> x.size(0, cell));
        }
    }

    /** "the side 20 + 5 * r + c is between the rows r and r + 1 of the column c, for r ... to 3" */
    private static void columnsHaveSidesUpToTheirEnds() {
        HousePlans x = Houses.telling(HousePlans.WALL);
        for (int side = 20; side < 40; side++) {
            x.tell(0, 0, side, HousePlans.OPEN);
        }
        Check.due(5, "columns: rooms", () -> x.rooms(0));
        for (int each = 0; each < 25; each++) {
            int cell = each;
            Check.due(cell % 5, "columns: room of " + cell, () -> x.room(0, cell));
            Check.due(5, "columns: size at " + cell, () -> x.size(0, cell));
        }
    }

    /** "So there are the sides 0 to 39.": those at the ends of rows and columns. */
    private static void theFirstAndLastSidesAreBetweenTheirCells() {
        int[][] ends = {{0, 0, 1}, {3, 3, 4}, {4, 5, 6}, {7, 8, 9}, {16, 20, 21}, {19, 23, 24},
            {20, 0, 5}, {24, 4, 9}, {25, 5, 10}, {34, 14, 19}, {35, 15, 20}, {39, 19, 24}};
        for (int[] end : ends) {
            HousePlans x = walls(HousePlans.OPEN, end[0]);
            for (int each = 0; each < 25; each++) {
                int cell = each;
                int due = cell == end[2] ? end[1] : cell;
                Check.due(due, "side " + end[0] + ": room of " + cell, () -> x.room(0, cell));
            }
        }
    }

    /** "The rooms of a drawing are the greatest sets of cells that are joined" */
    private static void roomsAreTheGreatestSets() {
        HousePlans x = Houses.locked(1);
        tell(x, HousePlans.WALL, 4, 7, 8, 11, 12, 15, 21, 22, 23, 36, 37, 38);
        Check.due(2, "a ring round a hall: rooms", () -> x.rooms(0));
        Check.due(16, "a ring round a hall: size of the ring", () -> x.size(0, 24));
        Check.due(9, "a ring round a hall: size of the hall", () -> x.size(0, 12));
        tell(x, HousePlans.WALL, 39);
        Check.due(2, "the ring cut once: rooms", () -> x.rooms(0));
        Check.due(0, "the ring cut once: room", () -> x.room(0, 24));
        tell(x, HousePlans.WALL, 16);
        Check.due(3, "the ring cut twice: rooms", () -> x.rooms(0));
        Check.due(21, "the ring cut twice: room", () -> x.room(0, 24));
        tell(x, HousePlans.OPEN, 38);
        Check.due(6, "joined to the hall: room", () -> x.room(0, 24));
        Check.due(13, "joined to the hall: size", () -> x.size(0, 24));
    }

    // ---- promise 10

    /** "A room is named by its lowest cell.", how far the way to it may be. */
    private static void aRoomIsNamedByItsLowestCell() {
        HousePlans x = walls(HousePlans.OPEN, 16, 17, 18, 19, 39, 34, 29, 24);
        Check.due(4, "along the lower edge: room of the first", () -> x.room(0, 20));
        Check.due(4, "along the lower edge: room of the last", () -> x.room(0, 24));
        Check.due(4, "along the lower edge: room of the lowest", () -> x.room(0, 4));
        Check.due(3, "beside it: room", () -> x.room(0, 3));
        HousePlans snake = walls(HousePlans.OPEN);
        for (int side = 0; side < 20; side++) {
            snake.tell(0, 0, side, HousePlans.OPEN);
        }
        tell(snake, HousePlans.OPEN, 24, 25, 34, 35);
        for (int each = 0; each < 25; each++) {
            int cell = each;
            Check.due(0, "a snake: room of " + cell, () -> snake.room(0, cell));
        }
        Check.due(1, "a snake: rooms", () -> snake.rooms(0));
        tell(snake, HousePlans.DOOR, 0);
        Check.due(0, "the tail cut off: room", () -> snake.room(0, 0));
        Check.due(1, "the tail cut off: room of the rest", () -> snake.room(0, 24));
    }

    // ---- promise 11

    /** "Returns how many cells the room has": one at the least, all at most. */
    private static void sizeFromOneToTwentyFive() {
        for (int each = 0; each < 25; each++) {
            int cell = each;
            Check.due(1, "walls: size at " + cell, () -> walls(HousePlans.WALL).size(0, cell));
            Check.due(25, "nothing: size at " + cell, () -> Houses.begun(1).size(0, cell));
        }
        HousePlans x = Houses.locked(1);
        tell(x, HousePlans.WALL, 19);
        Check.due(25, "half cut off: size", () -> x.size(0, 24));
        tell(x, HousePlans.WALL, 39);
        Check.due(1, "cut off: size", () -> x.size(0, 24));
        Check.due(24, "the rest: size", () -> x.size(0, 0));
    }

    /** "always by the drawings as they are now" */
    private static void roomsAreByTheDrawingsAsTheyAreNow() {
        HousePlans x = walls(HousePlans.WALL);
        x.begin();
        x.lock(1, 1);
        x.setExit(1, 1, 0, true);
        Check.due(0, "before: doorsOut", () -> x.doorsOut(1, 24));
        x.refer(1, 1, 0, true);
        Check.due(25, "referring: rooms", () -> x.rooms(1));
        Check.due(-1, "referring: doorsOut", () -> x.doorsOut(1, 24));
        Check.due(20, "referring: doorThatHelps", () -> x.doorThatHelps(1, 5));
        x.tell(0, 0, 20, HousePlans.DOOR);
        Check.due(1, "a door below: doorsOut", () -> x.doorsOut(1, 5));
        Check.due(-1, "a door below: doorThatHelps", () -> x.doorThatHelps(1, 5));
        x.tell(1, 1, 20, HousePlans.OPEN);
        Check.due(0, "opened above: doorsOut", () -> x.doorsOut(1, 5));
        Check.due(2, "opened above: size", () -> x.size(1, 5));
        x.refer(1, 1, 0, false);
        Check.due(25, "no more referring: size", () -> x.size(1, 24));
        Check.due(0, "no more referring: doorsOut", () -> x.doorsOut(1, 24));
    }

    // ---- promise 12

    /** "through how many doors one goes at the least": none, one, and as many as there may be. */
    private static void doorsOutFromNoneToTwentyFour() {
        HousePlans x = chainOfDoors();
        x.setExit(0, 0, 0, true);
        for (int row = 0; row < 5; row++) {
            for (int column = 0; column < 5; column++) {
                int cell = 5 * row + column;
                int due = 5 * row + (row % 2 == 0 ? column : 4 - column);
                Check.due(due, "chain: doorsOut of " + cell, () -> x.doorsOut(0, cell));
            }
        }
        HousePlans back = chainOfDoors();
        back.setExit(0, 0, 24, true);
        Check.due(24, "chain, the other way: doorsOut", () -> back.doorsOut(0, 0));
        Check.due(0, "chain, its exit: doorsOut", () -> back.doorsOut(0, 24));
        back.tell(0, 0, 0, HousePlans.WALL);
        Check.due(-1, "chain, cut at its end: doorsOut", () -> back.doorsOut(0, 0));
        Check.due(23, "chain, before its end: doorsOut", () -> back.doorsOut(0, 1));
        Check.due(0, "no door is needed: doorsOut", () -> Houses.full().doorsOut(0, 24));
    }

    /** All cells by themselves, with one chain of doors from 0 back and forth to 24. */
    private static HousePlans chainOfDoors() {
        HousePlans x = Houses.telling(HousePlans.WALL);
        for (int side = 0; side < 20; side++) {
            x.tell(0, 0, side, HousePlans.DOOR);
        }
        tell(x, HousePlans.DOOR, 24, 25, 34, 35);
        return x;
    }

    /** "at the least ... to a room with an exit": of several ways and exits. */
    private static void doorsOutGoesThroughTheFewest() {
        HousePlans x = chainOfDoors();
        x.setExit(0, 0, 0, true);
        x.setExit(0, 0, 24, true);
        Check.due(12, "in the midst: doorsOut", () -> x.doorsOut(0, 12));
        Check.due(11, "nearer to the first: doorsOut", () -> x.doorsOut(0, 13));
        Check.due(11, "nearer to the second: doorsOut", () -> x.doorsOut(0, 11));
        x.tell(0, 0, 32, HousePlans.DOOR);
        Check.due(8, "a short cut: doorsOut", () -> x.doorsOut(0, 12));
        x.tell(0, 0, 18, HousePlans.OPEN);
        Check.due(7, "nothing to go through: doorsOut", () -> x.doorsOut(0, 12));
    }

    private static void aDoorWithinARoomLeadsNowhere() {
        HousePlans x = walls(HousePlans.OPEN, 0, 20, 4);
        tell(x, HousePlans.DOOR, 21);
        Check.due(4, "a door within the room: size", () -> x.size(0, 0));
        Check.due(-1, "a door within the room: doorsOut", () -> x.doorsOut(0, 0));
        x.setExit(0, 0, 6, true);
        Check.due(0, "a door within the room with the exit: doorsOut", () -> x.doorsOut(0, 1));
    }

    /** "NONE if it has no way out" */
    private static void doorsOutIsNoneWithoutAWayOut() {
        Check.due(-1, "no exit at all: doorsOut", () -> Houses.begun(1).doorsOut(0, 12));
        Check.due(-1, "doors, no exit: doorsOut", () -> chainOfDoors().doorsOut(0, 12));
        HousePlans x = walls(HousePlans.WALL);
        x.setExit(0, 0, 12, true);
        for (int each = 0; each < 25; each++) {
            int cell = each;
            int due = cell == 12 ? 0 : -1;
            Check.due(due, "walls: doorsOut of " + cell, () -> x.doorsOut(0, cell));
        }
        tell(x, HousePlans.DOOR, 0);
        Check.due(-1, "beside one that has none: doorsOut", () -> x.doorsOut(0, 0));
    }

    /** "A room has a way out, if some cell of it has an exit" */
    private static void anExitOfAnyCellOfTheRoom() {
        for (int each = 0; each < 25; each++) {
            int cell = each;
            HousePlans x = Houses.locked(1);
            x.setExit(0, 0, cell, true);
            Check.due(0, "an exit at " + cell + ": doorsOut", () -> x.doorsOut(0, 0));
            Check.due(0, "an exit at " + cell + ": doorsOut", () -> x.doorsOut(0, 24));
            x.setExit(0, 0, cell, false);
            Check.due(-1, "no exit: doorsOut", () -> x.doorsOut(0, 24));
        }
    }

    // ---- promise 13

    /** "Returns the lowest wall": each one that may be the answer. */
    private static void doorThatHelpsFromSideZeroToSideThirtyNine() {
        for (int row = 0; row < 5; row++) {
            for (int column = 0; column < 5; column++) {
                int cell = 5 * row + column;
                if (column < 4) {
                    onlyThisHelps(4 * row + column, cell, cell + 1);
                }
                if (row < 4) {
                    onlyThisHelps(20 + cell, cell, cell + 5);
                }
            }
        }
    }

    private static void onlyThisHelps(int side, int one, int other) {
        HousePlans x = walls(HousePlans.WALL);
        x.setExit(0, 0, one, true);
        Check.due(side, "side " + side + ": doorThatHelps", () -> x.doorThatHelps(0, other));
        x.setExit(0, 0, one, false);
        x.setExit(0, 0, other, true);
        Check.due(side, "side " + side + " turned: doorThatHelps", () -> x.doorThatHelps(0, one));
        x.tell(0, 0, side, HousePlans.DOOR);
        Check.due(1, "side " + side + " as a door: doorsOut", () -> x.doorsOut(0, one));
    }

    /** "NONE if ... it has one" */
    private static void doorThatHelpsIsNoneIfItHasAWayOut() {
        HousePlans x = walls(HousePlans.WALL);
        x.setExit(0, 0, 12, true);
        x.setExit(0, 0, 13, true);
        Check.due(-1, "an exit of its own", () -> x.doorThatHelps(0, 12));
        tell(x, HousePlans.DOOR, 8, 9);
        Check.due(-1, "beside one with an exit", () -> x.doorThatHelps(0, 11));
        Check.due(-1, "over two doors", () -> x.doorThatHelps(0, 10));
        tell(x, HousePlans.WALL, 9);
        Check.due(9, "none any more", () -> x.doorThatHelps(0, 10));
    }

    /** "NONE if there is none" */
    private static void doorThatHelpsIsNoneIfThereIsNone() {
        Check.due(-1, "no wall, no exit", () -> Houses.begun(1).doorThatHelps(0, 0));
        Check.due(-1, "walls, no exit", () -> walls(HousePlans.WALL).doorThatHelps(0, 0));
        Check.due(-1, "doors, no exit", () -> chainOfDoors().doorThatHelps(0, 24));
        HousePlans x = walls(HousePlans.WALL);
        x.setExit(0, 0, 24, true);
        for (int each = 0; each < 25; each++) {
            int cell = each;
            int due = cell == 23 ? 19 : cell == 19 ? 39 : -1;
            Check.due(due, "one door from 24: " + cell, () -> x.doorThatHelps(0, cell));
        }
    }

    /** "of this room or elsewhere" */
    private static void doorThatHelpsOfThisRoomOrElsewhere() {
        HousePlans x = walls(HousePlans.DOOR, 33, 28);
        x.setExit(0, 0, 17, true);
        Check.due(14, "its own wall is the lowest", () -> x.doorThatHelps(0, 18));
        x.setExit(0, 0, 7, true);
        Check.due(6, "a wall two doors away", () -> x.doorThatHelps(0, 18));
        x.setExit(0, 0, 0, true);
        Check.due(6, "lower walls that lead nowhere for it", () -> x.doorThatHelps(0, 18));
        x.setExit(0, 0, 7, false);
        x.setExit(0, 0, 6, true);
        tell(x, HousePlans.DOOR, 2, 22);
        Check.due(14, "rooms too far away", () -> x.doorThatHelps(0, 18));
        tell(x, HousePlans.DOOR, 0, 1);
        Check.due(6, "a room whose way out is by doors", () -> x.doorThatHelps(0, 18));
        Check.due(6, "the same for the room between", () -> x.doorThatHelps(0, 13));
        Check.due(6, "and for the room there", () -> x.doorThatHelps(0, 8));
    }

    /** "the lowest wall": not a side that is something else, and as it is over references. */
    private static void doorThatHelpsIsAWall() {
        HousePlans x = Houses.locked(2);
        tell(x, HousePlans.WALL, 25, 26, 27, 28, 29);
        x.setExit(0, 0, 24, true);
        Check.due(25, "walls between two halls", () -> x.doorThatHelps(0, 0));
        tell(x, HousePlans.WALL, 0);
        Check.due(25, "a wall within the hall", () -> x.doorThatHelps(0, 0));
        x.refer(1, 1, 0, true);
        Check.due(25, "walls by reference", () -> x.doorThatHelps(1, 0));
        x.tell(1, 1, 27, HousePlans.DOOR);
        Check.due(-1, "a door of its own", () -> x.doorThatHelps(1, 0));
        Check.due(25, "not a door below", () -> x.doorThatHelps(0, 0));
        Check.due(1, "asking makes no door: side", () -> x.side(0, 25));
        Check.due(-1, "asking makes no door: doorsOut", () -> x.doorsOut(0, 0));
    }
}
