/** Promises 18 to 23: grant, holds, print, permitOf, isGood, old. */
public final class PermitsTest {
    private static final int MIN = Integer.MIN_VALUE, MAX = Integer.MAX_VALUE;

    public static void main(String[] args) {
        grantAsksEveryRoom();
        grantAsksEachCellAlone();
        grantAtMost();
        holds();
        holdsByReference();
        print();
        printKeepsTheHighestPermitThatHolds();
        printAtMost();
        isGoodAndOld();
        everySideAndExitCounts();
        refusals();
        Check.end();
    }

    /** So many drawings, all locked by person 0, with an exit at cell 0 of each. */
    private static HousePlans plans(int drawings) {
        HousePlans x = new HousePlans();
        for (int number = 0; number < drawings; number++) {
            x.begin();
            x.lock(number, 0);
            x.setExit(number, 0, 0, true);
        }
        return x;
    }

    private static void grantAsksEveryRoom() {
        HousePlans x = plans(1);
        Check.due(0, "grant", () -> x.grant(0));
        x.tell(0, 0, 19, HousePlans.WALL);
        x.tell(0, 0, 39, HousePlans.WALL);
        Check.forbidden("the last cell walled off: grant", () -> x.grant(0));
        x.tell(0, 0, 39, HousePlans.DOOR);
        Check.due(1, "a door: grant", () -> x.grant(0));
        x.setExit(0, 0, 0, false);
        Check.forbidden("no exit: grant", () -> x.grant(0));
        x.setExit(0, 0, 24, true);
        Check.due(2, "an exit behind the door: grant", () -> x.grant(0));
        x.tell(0, 0, 39, HousePlans.WALL);
        Check.forbidden("the first cell has no way out: grant", () -> x.grant(0));
        x.unlock(0, 0);
        x.begin();
        Check.forbidden("no exit in the new one: grant", () -> x.grant(1));
        Check.missing("no third permit came to be", () -> x.holds(3));
    }

    /** Each cell is walled off alone, all others lie in one room with an exit. */
    private static void grantAsksEachCellAlone() {
        for (int cell = 0; cell < 25; cell++) {
            HousePlans x = new HousePlans();
            x.begin();
            x.lock(0, 0);
            x.setExit(0, 0, 12, cell != 12);
            x.setExit(0, 0, 13, cell == 12);
            Check.due(0, "all in one room: grant", () -> x.grant(0));
            for (int side : sidesOf(cell)) {
                if (side >= 0) {
                    x.tell(0, 0, side, HousePlans.WALL);
                }
            }
            Check.due(2, "cell " + cell + " alone: rooms", () -> x.rooms(0));
            Check.forbidden("cell " + cell + " alone: grant", () -> x.grant(0));
            x.setExit(0, 0, cell, true);
            Check.due(1, "cell " + cell + " with an exit: grant", () -> x.grant(0));
        }
    }

    /** The sides of a cell to the left and right, above and below; -1 where the floor ends. */
    private static int[] sidesOf(int cell) {
        int row = cell / 5;
        int column = cell % 5;
        return new int[] {
            column > 0 ? 4 * row + column - 1 : -1,
            column < 4 ? 4 * row + column : -1,
            row > 0 ? 15 + cell : -1,
            row < 4 ? 20 + cell : -1};
    }

    private static void grantAtMost() {
        HousePlans x = plans(2);
        for (int number = 0; number < 20; number++) {
            int drawing = number % 2;
            Check.due(number, "grant", () -> x.grant(drawing));
        }
        Check.forbidden("the 21st: grant", () -> x.grant(0));
        Check.due(true, "the last: holds", () -> x.holds(19));
        Check.missing("no 21st: holds", () -> x.holds(20));
        Check.missing("no drawing, and 20 permits: grant", () -> x.grant(2));
        Check.due(0, "print", () -> x.print(0));
        Check.due(18, "the highest of this drawing", () -> x.permitOf(0));
    }

    private static void holds() {
        HousePlans x = plans(2);
        x.grant(0);
        Check.due(true, "holds", () -> x.holds(0));
        x.tell(0, 0, 0, HousePlans.OPEN);
        Check.due(false, "OPEN is not nothing: holds", () -> x.holds(0));
        x.grant(0);
        x.tell(0, 0, 0, HousePlans.NONE);
        Check.due(true, "as it was: holds", () -> x.holds(0));
        Check.due(false, "as it was: the other one holds", () -> x.holds(1));
        x.setExit(0, 0, 24, true);
        Check.due(false, "one more exit: holds", () -> x.holds(0));
        x.setExit(0, 0, 24, false);
        x.setExit(1, 0, 3, true);
        x.tell(1, 0, 3, 1);
        Check.due(true, "another drawing: holds", () -> x.holds(0));
        x.unlock(0, 0);
        Check.due(true, "unlocked: holds", () -> x.holds(0));
    }

    private static void holdsByReference() {
        HousePlans x = plans(3);
        x.tell(1, 0, 5, HousePlans.DOOR);
        x.refer(0, 0, 1, true);
        x.grant(0);
        x.tell(1, 0, 5, HousePlans.WALL);
        Check.due(false, "another one below: holds", () -> x.holds(0));
        x.tell(1, 0, 5, HousePlans.DOOR);
        Check.due(true, "as it was below: holds", () -> x.holds(0));
        x.refer(0, 0, 1, false);
        Check.due(false, "refers no more: holds", () -> x.holds(0));
        x.tell(0, 0, 5, HousePlans.DOOR);
        Check.due(true, "the same, told itself: holds", () -> x.holds(0));
        x.refer(0, 0, 2, true);
        Check.due(true, "refers to another, the same: holds", () -> x.holds(0));
        x.setExit(2, 0, 7, true);
        Check.due(false, "an exit there: holds", () -> x.holds(0));
    }

    private static void print() {
        HousePlans x = plans(2);
        Check.due(0, "print", () -> x.print(0));
        Check.due(-1, "no permit: permitOf", () -> x.permitOf(0));
        x.grant(0);
        Check.due(-1, "a later permit: permitOf", () -> x.permitOf(0));
        Check.due(false, "a later permit: isGood", () -> x.isGood(0));
        Check.due(1, "print", () -> x.print(0));
        Check.due(0, "permitOf", () -> x.permitOf(1));
        Check.due(2, "print another drawing", () -> x.print(1));
        Check.due(-1, "another drawing's permit: permitOf", () -> x.permitOf(2));
        x.tell(0, 0, 8, HousePlans.DOOR);
        Check.due(3, "print", () -> x.print(0));
        Check.due(-1, "a permit that does not hold: permitOf", () -> x.permitOf(3));
        Check.due(0, "it is kept: permitOf", () -> x.permitOf(1));
        x.tell(0, 0, 8, HousePlans.NONE);
        Check.due(-1, "not even if it holds again: permitOf", () -> x.permitOf(3));
    }

    private static void printKeepsTheHighestPermitThatHolds() {
        HousePlans x = plans(2);
        x.grant(0);
        x.grant(0);
        x.tell(0, 0, 8, HousePlans.DOOR);
        x.grant(0);
        x.tell(0, 0, 8, HousePlans.NONE);
        x.grant(1);
        x.print(0);
        Check.due(1, "permitOf", () -> x.permitOf(0));
        x.tell(0, 0, 8, HousePlans.DOOR);
        x.print(0);
        Check.due(2, "permitOf", () -> x.permitOf(1));
    }

    private static void printAtMost() {
        HousePlans x = new HousePlans();
        x.begin();
        for (int number = 0; number < 30; number++) {
            Check.due(number, "print", () -> x.print(0));
        }
        Check.forbidden("the 31st: print", () -> x.print(0));
        Check.due(-1, "the last: permitOf", () -> x.permitOf(29));
        Check.missing("no 31st: permitOf", () -> x.permitOf(30));
        Check.missing("no drawing, and 30 prints: print", () -> x.print(1));
        Check.due(0, "none is old", () -> x.old());
        x.lock(0, 0);
        x.setExit(0, 0, 7, true);
        Check.due(30, "all are old", () -> x.old());
    }

    private static void isGoodAndOld() {
        HousePlans x = plans(2);
        x.print(0);
        x.grant(0);
        x.print(0);
        x.grant(1);
        x.print(1);
        Check.due(false, "keeps no permit: isGood", () -> x.isGood(0));
        Check.due(true, "isGood", () -> x.isGood(1));
        Check.due(true, "isGood", () -> x.isGood(2));
        Check.due(0, "old", () -> x.old());
        x.tell(0, 0, 39, HousePlans.WALL);
        Check.due(false, "old: isGood", () -> x.isGood(1));
        Check.due(true, "the other drawing: isGood", () -> x.isGood(2));
        Check.due(2, "old", () -> x.old());
        x.refer(1, 0, 0, true);
        Check.due(false, "by reference: isGood", () -> x.isGood(2));
        Check.due(3, "by reference: old", () -> x.old());
        x.tell(0, 0, 39, HousePlans.NONE);
        Check.due(false, "no permit as before: isGood", () -> x.isGood(0));
        Check.due(true, "as before: isGood", () -> x.isGood(1));
        Check.due(true, "as before: isGood", () -> x.isGood(2));
        Check.due(0, "as before: old", () -> x.old());
    }

    private static void everySideAndExitCounts() {
        HousePlans x = plans(1);
        x.grant(0);
        x.print(0);
        for (int side = 0; side < 40; side++) {
            x.tell(0, 0, side, HousePlans.OPEN);
            changed(x, "side " + side);
            x.tell(0, 0, side, HousePlans.NONE);
        }
        for (int cell = 0; cell < 25; cell++) {
            x.setExit(0, 0, cell, cell != 0);
            changed(x, "cell " + cell);
            x.setExit(0, 0, cell, cell == 0);
        }
        Check.due(true, "all as before: holds", () -> x.holds(0));
        Check.due(0, "all as before: old", () -> x.old());
    }

    private static void changed(HousePlans x, String what) {
        Check.due(false, what + ": holds", () -> x.holds(0));
        Check.due(false, what + ": isGood", () -> x.isGood(0));
        Check.due(1, what + ": old", () -> x.old());
    }

    private static void refusals() {
        HousePlans x = plans(1);
        x.grant(0);
        x.print(0);
        for (int bad : new int[] {-1, 1, 20, 30, MIN, MAX}) {
            Check.missing("grant", () -> x.grant(bad));
            Check.missing("holds", () -> x.holds(bad));
            Check.missing("print", () -> x.print(bad));
            Check.missing("permitOf", () -> x.permitOf(bad));
            Check.missing("isGood", () -> x.isGood(bad));
        }
        Check.due(1, "after all refused: grant", () -> x.grant(0));
        Check.due(1, "after all refused: print", () -> x.print(0));
    }
}
