/** The section "Locks" and the promises 14 to 17 at their edges, sentence by sentence. */
public final class EdgesOfLocksTest {
    private static final String ARGUMENT = Whole.ARGUMENT, STATE = Whole.STATE;

    public static void main(String[] args) {
        aDrawingIsLockedByNoneAtFirst();
        lockNeedsNumbersInRange();
        lockThrowsIfItIsLocked();
        lockByEachPerson();
        lockIsOfOneDrawing();
        unlockNeedsNumbersInRange();
        unlockThrowsIfThePersonHasNotLockedIt();
        unlockThrowsIfItIsLent();
        unlockLeavesNobody();
        lendNeedsADrawing();
        lendNeedsNumbersInRange();
        lendThrowsIfBothAreTheSame();
        lendThrowsIfThePersonHasNotLockedIt();
        lendListsTheArgumentsFirst();
        lendToEachOther();
        lendTakesItBack();
        lendReturnsToWhomItWasLent();
        canChangeNeedsADrawing();
        canChangeByWhomItIsLentTo();
        Check.end();
    }

    /** "A drawing is locked by a person, or by none, as at first." */
    private static void aDrawingIsLockedByNoneAtFirst() {
        HousePlans x = Houses.begun(6);
        for (int each = 0; each < 6; each++) {
            int number = each;
            Check.due(-1, "at first: canChange", () -> x.canChange(number));
            Check.forbidden("at first: unlock", () -> Whole.unlock(x, number, number));
            Check.forbidden("at first: take back", () -> x.lend(number, number, -1));
            Check.due("nothing", "at first: lock", () -> Whole.lock(x, number, number));
        }
    }

    // ---- promise 14

    private static void lockNeedsNumbersInRange() {
        Whole.noDrawing("lock", (x, bad) -> Whole.lock(x, bad, 0));
        Whole.noDrawing("lock by 6", (x, bad) -> Whole.lock(x, bad, 6));
        Whole.noDrawing("lock by -1", (x, bad) -> Whole.lock(x, bad, -1));
        Whole.outside(ARGUMENT, "lock, person", Houses::lived, Whole.range(0, 5),
                (x, bad) -> Whole.lock(x, 2, bad));
        Whole.outside(ARGUMENT, "lock what is locked, person", Houses::lived, Whole.range(0, 5),
                (x, bad) -> Whole.lock(x, 0, bad));
        Whole.outside(ARGUMENT, "lock what is lent, person", Houses::lived, Whole.range(0, 5),
                (x, bad) -> Whole.lock(x, 1, bad));
    }

    /** "Throws IllegalStateException if it is locked", by whom ever. */
    private static void lockThrowsIfItIsLocked() {
        for (int each = 0; each < 6; each++) {
            int person = each;
            for (int drawing : new int[] {0, 1, 3}) {
                Whole.refused(STATE, "lock " + drawing + " by " + person, Houses::lived,
                        x -> Whole.lock(x, drawing, person));
            }
        }
        HousePlans x = Houses.lived();
        Check.due("nothing", "lock what was unlocked", () -> Whole.lock(x, 2, 0));
        Check.forbidden("lock it again", () -> Whole.lock(x, 2, 0));
    }

    /** "There are the people 0 to 5." */
    private static void lockByEachPerson() {
        for (int each = 0; each < 6; each++) {
            int person = each;
            HousePlans x = Houses.begun(6);
            Check.due("nothing", "lock the first", () -> Whole.lock(x, 0, person));
            Check.due("nothing", "lock the last", () -> Whole.lock(x, 5, person));
            Check.due(person, "locked: canChange the first", () -> x.canChange(0));
            Check.due(person, "locked: canChange the last", () -> x.canChange(5));
            Check.due(-1, "locked: tell", () -> x.tell(5, person, 0, 0));
            Check.due("nothing", "unlock the first", () -> Whole.unlock(x, 0, person));
            Check.due("nothing", "unlock the last", () -> Whole.unlock(x, 5, person));
            Check.due(-1, "unlocked: canChange the first", () -> x.canChange(0));
            Check.due(-1, "unlocked: canChange the last", () -> x.canChange(5));
        }
    }

    private static void lockIsOfOneDrawing() {
        HousePlans x = Houses.begun(3);
        x.lock(1, 2);
        Check.due(-1, "the one below: canChange", () -> x.canChange(0));
        Check.due(-1, "the one above: canChange", () -> x.canChange(2));
        Check.due("nothing", "the same person locks another", () -> Whole.lock(x, 2, 2));
        x.lend(1, 2, 4);
        Check.due(2, "only one is lent: canChange", () -> x.canChange(2));
        Check.due("nothing", "the one that is not lent: unlock", () -> Whole.unlock(x, 2, 2));
        Check.due(4, "the other stays lent: canChange", () -> x.canChange(1));
    }

    // ---- promise 15

    private static void unlockNeedsNumbersInRange() {
        Whole.noDrawing("unlock", (x, bad) -> Whole.unlock(x, bad, 0));
        Whole.noDrawing("unlock by 6", (x, bad) -> Whole.unlock(x, bad, 6));
        Whole.noDrawing("unlock by -1", (x, bad) -> Whole.unlock(x, bad, -1));
        Whole.outside(ARGUMENT, "unlock, person", Houses::lived, Whole.range(0, 5),
                (x, bad) -> Whole.unlock(x, 0, bad));
        Whole.outside(ARGUMENT, "unlock what is not locked, person", Houses::lived,
                Whole.range(0, 5), (x, bad) -> Whole.unlock(x, 2, bad));
        Whole.outside(ARGUMENT, "unlock what is lent, person", Houses::lived, Whole.range(0, 5),
                (x, bad) -> Whole.unlock(x, 1, bad));
    }

    /** "Throws IllegalStateException if the person has not locked it" */
    private static void unlockThrowsIfThePersonHasNotLockedIt() {
        for (int person = 0; person < 6; person++) {
            int by = person;
            if (person != 0) {
                Whole.refused(STATE, "unlock 0 by " + by, Houses::lived,
                        x -> Whole.unlock(x, 0, by));
            }
            Whole.refused(STATE, "unlock what is not locked by " + by, Houses::lived,
                    x -> Whole.unlock(x, 2, by));
            Whole.refused(STATE, "unlock what was never locked by " + by, () -> Houses.begun(1),
                    x -> Whole.unlock(x, 0, by));
        }
    }

    /** "or it is lent" */
    private static void unlockThrowsIfItIsLent() {
        for (int person = 0; person < 6; person++) {
            int by = person;
            Whole.refused(STATE, "unlock what is lent by " + by, Houses::lived,
                    x -> Whole.unlock(x, 1, by));
        }
        for (int other = 1; other < 6; other++) {
            HousePlans x = Houses.locked(1);
            x.lend(0, 0, other);
            Check.forbidden("lent to " + other + ": unlock", () -> Whole.unlock(x, 0, 0));
            x.lend(0, 0, HousePlans.NONE);
            Check.due("nothing", "taken back: unlock", () -> Whole.unlock(x, 0, 0));
        }
    }

    private static void unlockLeavesNobody() {
        HousePlans x = Houses.locked(1);
        Check.due("nothing", "unlock", () -> Whole.unlock(x, 0, 0));
        Check.due(-1, "unlocked: canChange", () -> x.canChange(0));
        Check.forbidden("unlocked: tell", () -> x.tell(0, 0, 0, 1));
        Check.forbidden("unlocked: lend", () -> x.lend(0, 0, 1));
        Check.forbidden("unlocked: unlock", () -> Whole.unlock(x, 0, 0));
        Check.due("nothing", "unlocked: lock by another", () -> Whole.lock(x, 0, 5));
        Check.due(-1, "nothing is lent: lend", () -> x.lend(0, 5, 0));
    }

    // ---- promise 16

    /** "Throws IndexOutOfBoundsException if there is no such drawing", whatever else is wrong. */
    private static void lendNeedsADrawing() {
        Whole.noDrawing("lend", (x, bad) -> x.lend(bad, 0, 1));
        Whole.noDrawing("take back", (x, bad) -> x.lend(bad, 0, HousePlans.NONE));
        Whole.noDrawing("lend, all wrong,", (x, bad) -> x.lend(bad, 6, -2));
        Whole.noDrawing("lend to oneself", (x, bad) -> x.lend(bad, 0, 0));
    }

    /** "Throws IllegalArgumentException if person or other is out of range" */
    private static void lendNeedsNumbersInRange() {
        Whole.outside(ARGUMENT, "lend, person", Houses::lived, Whole.range(0, 5),
                (x, bad) -> x.lend(0, bad, 1));
        Whole.outside(ARGUMENT, "take back, person", Houses::lived, Whole.range(0, 5),
                (x, bad) -> x.lend(1, bad, HousePlans.NONE));
        Whole.outside(ARGUMENT, "lend, other", Houses::lived, Whole.range(HousePlans.NONE, 5),
                (x, bad) -> x.lend(0, 0, bad));
        Whole.outside(ARGUMENT, "lend what is lent, other", Houses::lived,
                Whole.range(HousePlans.NONE, 5), (x, bad) -> x.lend(1, 1, bad));
    }

    /** "or both are the same" */
    private static void lendThrowsIfBothAreTheSame() {
        for (int each = 0; each < 6; each++) {
            int person = each;
            Whole.refused(ARGUMENT, "lend to oneself", Houses::full,
                    x -> x.lend(person, person, person));
            Whole.refused(ARGUMENT, "lend to oneself what is lent", Houses::lived,
                    x -> x.lend(1, person, person));
        }
        Whole.refused(ARGUMENT, "both NONE", Houses::lived,
                x -> x.lend(2, HousePlans.NONE, HousePlans.NONE));
    }

    /** "Throws IllegalStateException if the person has not locked it" */
    private static void lendThrowsIfThePersonHasNotLockedIt() {
        for (int person = 0; person < 6; person++) {
            int by = person;
            int to = person == 5 ? 0 : 5;
            for (int drawing : new int[] {0, 1, 2, 3}) {
                if (drawing == 2 || drawing != person) {
                    Whole.refused(STATE, "lend " + drawing + " by " + by, Houses::lived,
                            x -> x.lend(drawing, by, to));
                    Whole.refused(STATE, "take back " + drawing + " by " + by, Houses::lived,
                            x -> x.lend(drawing, by, HousePlans.NONE));
                }
            }
        }
    }

    /** "if several apply, the one that it lists first is thrown" */
    private static void lendListsTheArgumentsFirst() {
        Whole.outside(ARGUMENT, "lend what is not locked, person", Houses::lived,
                Whole.range(0, 5), (x, bad) -> x.lend(2, bad, 1));
        Whole.outside(ARGUMENT, "lend what is not locked, other", Houses::lived,
                Whole.range(HousePlans.NONE, 5), (x, bad) -> x.lend(2, 0, bad));
        Whole.outside(ARGUMENT, "lend by the borrower, other", Houses::lived,
                Whole.range(HousePlans.NONE, 5), (x, bad) -> x.lend(1, 4, bad));
        Whole.refused(ARGUMENT, "lend to oneself what is not locked", Houses::lived,
                x -> x.lend(2, 3, 3));
        Whole.refused(ARGUMENT, "lend to oneself what another has locked", Houses::lived,
                x -> x.lend(0, 3, 3));
    }

    /** "Who has locked it can lend the lock to another person": each of 0 to 5 to each other. */
    private static void lendToEachOther() {
        for (int one = 0; one < 6; one++) {
            for (int two = 0; two < 6; two++) {
                if (one != two) {
                    int by = one;
                    int to = two;
                    HousePlans x = Houses.begun(6);
                    x.lock(5, by);
                    Check.due(-1, "lend", () -> x.lend(5, by, to));
                    Check.due(to, "lent: canChange", () -> x.canChange(5));
                    Check.due(-1, "lent: tell", () -> x.tell(5, to, 39, 1));
                    Check.forbidden("lent away: tell", () -> x.tell(5, by, 39, 2));
                    Check.due(to, "take back", () -> x.lend(5, by, HousePlans.NONE));
                    Check.due(by, "taken back: canChange", () -> x.canChange(5));
                    Check.forbidden("taken back: tell", () -> x.tell(5, to, 39, 2));
                    Check.due(1, "taken back: tell", () -> x.tell(5, by, 39, 0));
                }
            }
        }
    }

    /** "and take it back", "NONE to take it back" */
    private static void lendTakesItBack() {
        HousePlans x = Houses.locked(1);
        Check.due(-1, "what is not lent", () -> x.lend(0, 0, HousePlans.NONE));
        Check.due(0, "what is not lent: canChange", () -> x.canChange(0));
        x.lend(0, 0, 5);
        Check.due(5, "what is lent", () -> x.lend(0, 0, HousePlans.NONE));
        Check.due(0, "what is lent: canChange", () -> x.canChange(0));
        Check.due(-1, "what is taken back", () -> x.lend(0, 0, HousePlans.NONE));
        Check.due("nothing", "unlock", () -> Whole.unlock(x, 0, 0));
    }

    /** "Returns to whom it was lent; NONE if to nobody." */
    private static void lendReturnsToWhomItWasLent() {
        HousePlans x = Houses.begun(1);
        x.lock(0, 3);
        Check.due(-1, "to nobody", () -> x.lend(0, 3, 0));
        Check.due(0, "to 0, the least", () -> x.lend(0, 3, 5));
        Check.due(5, "to 5, the greatest", () -> x.lend(0, 3, 5));
        Check.due(5, "to 5 still", () -> x.lend(0, 3, HousePlans.NONE));
        Check.due(-1, "to nobody any more", () -> x.lend(0, 3, 1));
    }

    // ---- promise 17

    private static void canChangeNeedsADrawing() {
        Whole.noDrawing("canChange", (x, bad) -> x.canChange(bad));
        HousePlans x = Houses.full();
        Check.due(0, "the least", () -> x.canChange(0));
        Check.due(5, "the greatest", () -> x.canChange(5));
    }

    /** "by the person to whom its lock is lent, or, if it is not lent, by ...", "NONE if ..." */
    private static void canChangeByWhomItIsLentTo() {
        HousePlans x = Houses.lived();
        Check.due(0, "locked", () -> x.canChange(0));
        Check.due(4, "locked and lent", () -> x.canChange(1));
        Check.due(-1, "unlocked", () -> x.canChange(2));
        x.refer(0, 0, 2, true);
        Check.due(-1, "referred to", () -> x.canChange(2));
        x.lend(1, 1, 0);
        Check.due(0, "lent to 0", () -> x.canChange(1));
    }
}
