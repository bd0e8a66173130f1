/** The section "Permits and prints" and the promises 18 to 23 at their edges. */
public final class EdgesOfPermitsTest {
    private static final String INDEX = Whole.INDEX, STATE = Whole.STATE;

    public static void main(String[] args) {
        noPermitsOrPrintsYet();
        grantNeedsADrawing();
        grantReturnsItsNumber();
        grantThrowsIfSomeRoomHasNoWayOut();
        grantThrowsIfThereAreTwenty();
        grantNeedsNoLock();
        holdsNeedsAPermit();
        holdsIfAllIsTheSameNow();
        holdsByWhatSidesAreNotByWhoTellsIt();
        permitsOfOneDrawingEach();
        printNeedsADrawing();
        printReturnsItsNumber();
        printThrowsIfThereAreThirty();
        printNeedsNoWayOut();
        permitOfNeedsAPrint();
        aPrintKeepsNoneIfNoneHoldsThen();
        aPrintKeepsTheHighestThatHoldsThen();
        aPrintKeepsItForGood();
        isGoodNeedsAPrint();
        isGoodIfNotOldAndWithAPermit();
        oldFromNoneToThirty();
        oldIfTheDrawingIsNotSoAnyMore();
        Check.end();
    }

    /** So many permits for drawing 0, whose one room has an exit, locked by person 0. */
    private static HousePlans granted(int permits) {
        HousePlans x = Houses.locked(2);
        x.setExit(0, 0, 0, true);
        for (int number = 0; number < permits; number++) {
            x.grant(0);
        }
        return x;
    }

    private static void noPermitsOrPrintsYet() {
        for (HousePlans x : new HousePlans[] {Houses.none(), Houses.locked(6)}) {
            Check.missing("none yet: holds", () -> x.holds(0));
            Check.missing("none yet: permitOf", () -> x.permitOf(0));
            Check.missing("none yet: isGood", () -> x.isGood(0));
            Check.due(0, "none yet: old", () -> x.old());
        }
        HousePlans x = granted(20);
        Check.missing("permits, no prints: permitOf", () -> x.permitOf(0));
        Check.missing("permits, no prints: isGood", () -> x.isGood(0));
        Check.due(0, "permits, no prints: old", () -> x.old());
        Check.due(0, "permits, no prints: print", () -> x.print(0));
        Check.missing("prints, no permits: holds", () -> printed(30).holds(0));
    }

    /** So many prints of drawing 0, which tells nothing. */
    private static HousePlans printed(int prints) {
        HousePlans x = Houses.locked(1);
        for (int number = 0; number < prints; number++) {
            x.print(0);
        }
        return x;
    }

    // ---- promise 18

    /** "Throws IndexOutOfBoundsException if there is no such drawing", also with 20 permits. */
    private static void grantNeedsADrawing() {
        Whole.noDrawing("grant", (x, bad) -> x.grant(bad));
        Whole.outside(INDEX, "grant with 20, for no drawing", () -> granted(20),
                Whole.range(0, 1), (x, bad) -> x.grant(bad));
        HousePlans x = Houses.locked(6);
        x.setExit(0, 0, 0, true);
        x.setExit(5, 5, 0, true);
        Check.due(0, "grant for the greatest", () -> x.grant(5));
        Check.due(1, "grant for the least", () -> x.grant(0));
    }

    /** "permits are numbered from 0, at most 20", "Returns its number." */
    private static void grantReturnsItsNumber() {
        HousePlans x = granted(0);
        x.setExit(1, 1, 24, true);
        for (int each = 0; each < 20; each++) {
            int number = each;
            Check.missing("not yet granted: holds", () -> x.holds(number));
            Check.due(number, "grant", () -> x.grant(number % 2));
            Check.due(true, "granted: holds", () -> x.holds(number));
        }
        Check.due(19, "the twentieth: grant", () -> granted(19).grant(0));
    }

    /** "if each of its rooms has a way out": no room, one of two, one of 25 has none. */
    private static void grantThrowsIfSomeRoomHasNoWayOut() {
        Whole.refused(STATE, "grant without an exit", () -> Houses.locked(1), x -> x.grant(0));
        Whole.refused(STATE, "grant without an exit, among others", Houses::lived,
                x -> x.grant(3));
        for (int each = 0; each < 25; each++) {
            int cell = each;
            Whole.refused(STATE, "grant, only " + cell + " has no way out",
                    () -> allExitsBut(cell), x -> x.grant(0));
            HousePlans x = allExitsBut(cell);
            x.tell(0, 0, cell == 24 ? 39 : cell % 5 == 4 ? 20 + cell : cell / 5 * 4 + cell % 5,
                    HousePlans.DOOR);
            Check.due(0, "grant, " + cell + " has a door", () -> x.grant(0));
        }
        Whole.refused(STATE, "grant, exits of another drawing", () -> granted(1),
                x -> x.grant(1));
        HousePlans x = granted(1);
        x.refer(1, 1, 0, true);
        Check.due(1, "grant, an exit by reference", () -> x.grant(1));
        Check.due(0, "grant, a way out over 24 doors", () -> chainOfDoors().grant(0));
    }

    /** All cells by themselves, all with exits but for one. */
    private static HousePlans allExitsBut(int without) {
        HousePlans x = Houses.telling(HousePlans.WALL);
        for (int cell = 0; cell < 25; cell++) {
            x.setExit(0, 0, cell, cell != without);
        }
        return x;
    }

    /** All cells by themselves, one chain of doors from 0 back and forth to 24 with the exit. */
    private static HousePlans chainOfDoors() {
        HousePlans x = Houses.telling(HousePlans.WALL);
        for (int side = 0; side < 20; side++) {
            x.tell(0, 0, side, HousePlans.DOOR);
        }
        for (int side : new int[] {24, 25, 34, 35}) {
            x.tell(0, 0, side, HousePlans.DOOR);
        }
        x.setExit(0, 0, 24, true);
        return x;
    }

    /** "or there are 20" */
    private static void grantThrowsIfThereAreTwenty() {
        Whole.refused(STATE, "the 21st grant", () -> granted(20), x -> x.grant(0));
        Whole.refused(STATE, "the 21st grant, and no way out", () -> granted(20), x -> x.grant(1));
        Whole.refused(STATE, "the 21st grant, prints too", Houses::full, x -> x.grant(5));
        HousePlans x = granted(20);
        x.setExit(0, 0, 24, true);
        Check.forbidden("20 that do not hold: grant", () -> x.grant(0));
        Check.due(false, "20 that do not hold: holds", () -> x.holds(19));
        Check.missing("no 21st: holds", () -> x.holds(20));
    }

    private static void grantNeedsNoLock() {
        HousePlans x = granted(0);
        x.lend(0, 0, 3);
        Check.due(0, "lent: grant", () -> x.grant(0));
        Check.due(0, "lent: print", () -> x.print(0));
        x.lend(0, 0, HousePlans.NONE);
        x.unlock(0, 0);
        Check.due(1, "unlocked: grant", () -> x.grant(0));
        Check.due(1, "unlocked: print", () -> x.print(0));
        Check.due(true, "locks are not kept: holds", () -> x.holds(0));
        Check.due(true, "locks are not kept: isGood", () -> x.isGood(0));
        Check.due(0, "locks are not kept: old", () -> x.old());
    }

    // ---- promise 19

    /** "Throws IndexOutOfBoundsException if there is no such permit" */
    private static void holdsNeedsAPermit() {
        noSuch("holds", Houses::none, 0, (x, bad) -> x.holds(bad));
        noSuch("holds", () -> granted(1), 1, (x, bad) -> x.holds(bad));
        noSuch("holds", Houses::lived, 3, (x, bad) -> x.holds(bad));
        noSuch("holds", Houses::full, 20, (x, bad) -> x.holds(bad));
        HousePlans x = Houses.full();
        Check.due(true, "the least: holds", () -> x.holds(0));
        Check.due(true, "the greatest: holds", () -> x.holds(19));
        Check.due(false, "one within: holds", () -> x.holds(3));
    }

    private static void noSuch(String what, Whole.State state, int count, Whole.NumberUse use) {
        Whole.outside(INDEX, what + " of " + count, state, Whole.range(0, count - 1), use);
    }

    /** "It keeps what all sides and exits of the drawing are then. A permit holds, if ... same" */
    private static void holdsIfAllIsTheSameNow() {
        int[] whats = {HousePlans.NONE, HousePlans.OPEN, HousePlans.WALL, HousePlans.DOOR};
        for (int side : new int[] {0, 19, 20, 39}) {
            for (int then : whats) {
                for (int now : whats) {
                    HousePlans x = granted(0);
                    x.tell(0, 0, side, then);
                    x.grant(0);
                    x.tell(0, 0, side, now);
                    String what = "side " + side + ", " + then + " then, " + now + " now: holds";
                    Check.due(then == now, what, () -> x.holds(0));
                }
            }
        }
        for (int each = 0; each < 25; each++) {
            int cell = each;
            HousePlans x = granted(1);
            x.setExit(0, 0, cell, cell != 0);
            Check.due(false, "another exit at " + cell + ": holds", () -> x.holds(0));
            x.setExit(0, 0, cell, cell == 0);
            Check.due(true, "exits as then: holds", () -> x.holds(0));
        }
    }

    private static void holdsByWhatSidesAreNotByWhoTellsIt() {
        HousePlans x = Houses.lived();
        Check.due(false, "side 39 of another drawing: holds", () -> x.holds(0));
        Check.due(true, "granted after that: holds", () -> x.holds(2));
        x.tell(0, 0, 20, HousePlans.WALL);
        x.setExit(0, 0, 24, true);
        Check.due(true, "it tells the same itself: holds", () -> x.holds(2));
        x.tell(1, 4, 39, HousePlans.NONE);
        Check.due(true, "as it was then, by the other: holds", () -> x.holds(0));
        Check.due(true, "as it was then, the other itself: holds", () -> x.holds(1));
        Check.due(false, "not as it was later: holds", () -> x.holds(2));
        x.tell(0, 0, 39, HousePlans.OPEN);
        Check.due(false, "OPEN is not nothing: holds", () -> x.holds(0));
    }

    private static void permitsOfOneDrawingEach() {
        HousePlans x = Houses.full();
        x.tell(0, 0, 0, HousePlans.OPEN);
        for (int each = 0; each < 20; each++) {
            int number = each;
            boolean due = number % 6 != 0 && number % 6 != 3;
            Check.due(due, "only those of 0 and 3 do not: holds", () -> x.holds(number));
        }
        for (int each = 0; each < 30; each++) {
            int number = each;
            boolean due = number % 6 != 0 && number % 6 != 3;
            Check.due(due, "only those of 0 and 3 are not: isGood", () -> x.isGood(number));
        }
        Check.due(10, "only those of 0 and 3: old", () -> x.old());
    }

    // ---- promise 20

    /** "Throws IndexOutOfBoundsException if there is no such drawing", also with 30 prints. */
    private static void printNeedsADrawing() {
        Whole.noDrawing("print", (x, bad) -> x.print(bad));
        Whole.outside(INDEX, "print with 30, of no drawing", () -> printed(30),
                Whole.range(0, 0), (x, bad) -> x.print(bad));
        HousePlans x = Houses.begun(6);
        Check.due(0, "print of the greatest", () -> x.print(5));
        Check.due(1, "print of the least", () -> x.print(0));
    }

    /** "Prints are numbered from 0, at most 30.", "Returns its number." */
    private static void printReturnsItsNumber() {
        HousePlans x = Houses.begun(2);
        for (int each = 0; each < 30; each++) {
            int number = each;
            Check.missing("not yet made: permitOf", () -> x.permitOf(number));
            Check.missing("not yet made: isGood", () -> x.isGood(number));
            Check.due(number, "print", () -> x.print(number % 2));
            Check.due(-1, "made: permitOf", () -> x.permitOf(number));
            Check.due(false, "made: isGood", () -> x.isGood(number));
        }
        Check.due(29, "the thirtieth: print", () -> printed(29).print(0));
    }

    /** "Throws IllegalStateException if there are 30" */
    private static void printThrowsIfThereAreThirty() {
        Whole.refused(STATE, "the 31st print", () -> printed(30), x -> x.print(0));
        Whole.refused(STATE, "the 31st print, permits too", Houses::full, x -> x.print(5));
        HousePlans x = printed(30);
        x.tell(0, 0, 0, HousePlans.WALL);
        Check.forbidden("30 old ones: print", () -> x.print(0));
        Check.due(30, "30 old ones: old", () -> x.old());
        Check.missing("no 31st: permitOf", () -> x.permitOf(30));
        Check.missing("no 31st: isGood", () -> x.isGood(30));
    }

    private static void printNeedsNoWayOut() {
        HousePlans x = Houses.telling(HousePlans.WALL);
        Check.forbidden("no way out: grant", () -> x.grant(0));
        Check.due(0, "no way out: print", () -> x.print(0));
        Check.due(-1, "no way out: permitOf", () -> x.permitOf(0));
        Check.due(0, "no way out: old", () -> x.old());
    }

    // ---- promise 21

    /** "Throws IndexOutOfBoundsException if there is no such print" */
    private static void permitOfNeedsAPrint() {
        noSuch("permitOf", Houses::none, 0, (x, bad) -> x.permitOf(bad));
        noSuch("permitOf", () -> granted(20), 0, (x, bad) -> x.permitOf(bad));
        noSuch("permitOf", () -> printed(1), 1, (x, bad) -> x.permitOf(bad));
        noSuch("permitOf", Houses::lived, 4, (x, bad) -> x.permitOf(bad));
        noSuch("permitOf", Houses::full, 30, (x, bad) -> x.permitOf(bad));
        HousePlans x = Houses.full();
        Check.due(18, "the least: permitOf", () -> x.permitOf(0));
        Check.due(17, "the greatest: permitOf", () -> x.permitOf(29));
    }

    /** "NONE if it keeps none." */
    private static void aPrintKeepsNoneIfNoneHoldsThen() {
        HousePlans x = granted(0);
        x.print(0);
        Check.due(-1, "no permit yet: permitOf", () -> x.permitOf(0));
        x.grant(0);
        x.print(1);
        Check.due(-1, "one for another drawing: permitOf", () -> x.permitOf(1));
        x.refer(1, 1, 0, true);
        x.print(1);
        Check.due(-1, "for another that is the same: permitOf", () -> x.permitOf(2));
        x.tell(0, 0, 39, HousePlans.OPEN);
        x.print(0);
        Check.due(-1, "one that does not hold: permitOf", () -> x.permitOf(3));
        x.tell(0, 0, 39, HousePlans.NONE);
        x.print(0);
        Check.due(0, "one that holds again: permitOf", () -> x.permitOf(4));
        Check.due(-1, "no permit then: permitOf", () -> x.permitOf(0));
    }

    /** "the permit with the highest number for this drawing that holds then" */
    private static void aPrintKeepsTheHighestThatHoldsThen() {
        for (int count = 1; count <= 20; count++) {
            int permits = count;
            HousePlans x = granted(permits);
            x.print(0);
            Check.due(permits - 1, "the highest: permitOf", () -> x.permitOf(0));
        }
        HousePlans x = granted(2);
        x.tell(0, 0, 5, HousePlans.DOOR);
        x.grant(0);
        x.setExit(1, 1, 0, true);
        x.grant(1);
        x.print(0);
        Check.due(2, "not that of another drawing: permitOf", () -> x.permitOf(0));
        x.tell(0, 0, 5, HousePlans.NONE);
        x.print(0);
        Check.due(1, "not a higher one that does not hold: permitOf", () -> x.permitOf(1));
        x.print(1);
        Check.due(3, "its own: permitOf", () -> x.permitOf(2));
    }

    /** "A print of a drawing keeps ...": what is granted or changed later is nothing to it. */
    private static void aPrintKeepsItForGood() {
        HousePlans x = granted(1);
        x.print(0);
        x.grant(0);
        Check.due(0, "a higher one later: permitOf", () -> x.permitOf(0));
        x.setExit(0, 0, 0, false);
        Check.due(0, "it does not hold any more: permitOf", () -> x.permitOf(0));
        Check.due(false, "it does not hold any more: isGood", () -> x.isGood(0));
        x.setExit(0, 0, 0, true);
        Check.due(0, "it holds again: permitOf", () -> x.permitOf(0));
        x.print(0);
        Check.due(1, "a print later: permitOf", () -> x.permitOf(1));
    }

    // ---- promise 22

    /** "Throws IndexOutOfBoundsException if there is no such print" */
    private static void isGoodNeedsAPrint() {
        noSuch("isGood", Houses::none, 0, (x, bad) -> x.isGood(bad));
        noSuch("isGood", () -> granted(20), 0, (x, bad) -> x.isGood(bad));
        noSuch("isGood", () -> printed(1), 1, (x, bad) -> x.isGood(bad));
        noSuch("isGood", Houses::lived, 4, (x, bad) -> x.isGood(bad));
        noSuch("isGood", Houses::full, 30, (x, bad) -> x.isGood(bad));
        HousePlans x = Houses.full();
        Check.due(true, "the least: isGood", () -> x.isGood(0));
        Check.due(true, "the greatest: isGood", () -> x.isGood(29));
        Check.due(false, "one within: isGood", () -> x.isGood(27));
    }

    /** "A print is good, if it is not old, and keeps a permit." */
    private static void isGoodIfNotOldAndWithAPermit() {
        HousePlans x = granted(0);
        x.print(0);
        x.grant(0);
        x.print(0);
        Check.due(false, "not old, no permit: isGood", () -> x.isGood(0));
        Check.due(true, "not old, permit 0: isGood", () -> x.isGood(1));
        x.tell(0, 0, 0, HousePlans.OPEN);
        Check.due(false, "old, no permit: isGood", () -> x.isGood(0));
        Check.due(false, "old, permit 0: isGood", () -> x.isGood(1));
        x.grant(0);
        Check.due(false, "old, and a permit since: isGood", () -> x.isGood(1));
        x.tell(0, 0, 0, HousePlans.NONE);
        Check.due(false, "as it was, no permit: isGood", () -> x.isGood(0));
        Check.due(true, "as it was, permit 0: isGood", () -> x.isGood(1));
    }

    // ---- promise 23

    /** "Returns how many prints are old.": none, and as many as there may be. */
    private static void oldFromNoneToThirty() {
        Check.due(0, "no drawings: old", () -> Houses.none().old());
        for (int count = 0; count <= 30; count++) {
            int prints = count;
            HousePlans x = printed(prints);
            Check.due(0, prints + " prints, no change: old", () -> x.old());
            x.setExit(0, 0, 12, true);
            Check.due(prints, prints + " prints, a change: old", () -> x.old());
            x.setExit(0, 0, 12, false);
            Check.due(0, prints + " prints, as before: old", () -> x.old());
        }
        HousePlans x = printed(29);
        x.tell(0, 0, 39, HousePlans.OPEN);
        x.print(0);
        Check.due(29, "all but the last: old", () -> x.old());
        x.tell(0, 0, 39, HousePlans.NONE);
        Check.due(1, "only the last: old", () -> x.old());
    }

    /** "A print is old, if the drawing is not so any more.", whoever of the drawings changed. */
    private static void oldIfTheDrawingIsNotSoAnyMore() {
        for (int each = 0; each < 65; each++) {
            int part = each;
            HousePlans x = printed(1);
            if (part < 40) {
                x.tell(0, 0, part, HousePlans.OPEN);
            } else {
                x.setExit(0, 0, part - 40, true);
            }
            Check.due(1, "side, then cell " + part + ": old", () -> x.old());
        }
        HousePlans x = Houses.lived();
        Check.due(2, "two old ones: old", () -> x.old());
        x.tell(1, 4, 39, HousePlans.NONE);
        Check.due(1, "as the first two were: old", () -> x.old());
        x.tell(1, 4, 39, HousePlans.WALL);
        Check.due(2, "as the third was: old", () -> x.old());
        x.refer(0, 0, 1, false);
        Check.due(3, "no more referring: old", () -> x.old());
        x.refer(0, 0, 1, true);
        Check.due(2, "referring again: old", () -> x.old());
        x.refer(0, 0, 2, true);
        Check.due(3, "a DOOR by one more: old", () -> x.old());
        x.tell(0, 0, 0, HousePlans.OPEN);
        Check.due(3, "OPEN is not nothing: old", () -> x.old());
    }
}
