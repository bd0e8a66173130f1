/** Promises 14 to 17: lock, unlock, lend, canChange. */
public final class LocksTest {
    private static final int MIN = Integer.MIN_VALUE, MAX = Integer.MAX_VALUE;

    public static void main(String[] args) {
        lockAndUnlock();
        lend();
        unlockWhileLent();
        refusals();
        firstComesFirst();
        Check.end();
    }

    private static HousePlans plans(int drawings) {
        HousePlans x = new HousePlans();
        for (int number = 0; number < drawings; number++) {
            x.begin();
        }
        return x;
    }

    private static Object lock(HousePlans x, int drawing, int person) {
        x.lock(drawing, person);
        return "nothing";
    }

    private static Object unlock(HousePlans x, int drawing, int person) {
        x.unlock(drawing, person);
        return "nothing";
    }

    private static void lockAndUnlock() {
        HousePlans x = plans(2);
        for (int each = 0; each < 6; each++) {
            int person = each;
            Check.due("nothing", "lock", () -> lock(x, 0, person));
            Check.due(person, "locked: canChange", () -> x.canChange(0));
            Check.due(-1, "the other: canChange", () -> x.canChange(1));
            Check.forbidden("lock again", () -> lock(x, 0, person));
            Check.forbidden("lock by another", () -> lock(x, 0, (person + 1) % 6));
            Check.forbidden("unlock by another", () -> unlock(x, 0, (person + 1) % 6));
            Check.due(person, "still locked: canChange", () -> x.canChange(0));
            Check.due("nothing", "unlock", () -> unlock(x, 0, person));
            Check.due(-1, "unlocked: canChange", () -> x.canChange(0));
            Check.forbidden("unlock again", () -> unlock(x, 0, person));
        }
    }

    private static void lend() {
        HousePlans x = plans(1);
        Check.forbidden("lend unlocked", () -> x.lend(0, 2, 3));
        Check.forbidden("take back unlocked", () -> x.lend(0, 2, -1));
        x.lock(0, 2);
        Check.due(-1, "take back what is not lent", () -> x.lend(0, 2, -1));
        Check.due(-1, "lend", () -> x.lend(0, 2, 3));
        Check.due(3, "lent: canChange", () -> x.canChange(0));
        Check.forbidden("lend by the borrower", () -> x.lend(0, 3, 4));
        Check.forbidden("take back by the borrower", () -> x.lend(0, 3, -1));
        Check.due(3, "lend on", () -> x.lend(0, 2, 0));
        Check.due(0, "lent on: canChange", () -> x.canChange(0));
        Check.due(0, "lend to the same again", () -> x.lend(0, 2, 0));
        Check.due(0, "take back", () -> x.lend(0, 2, HousePlans.NONE));
        Check.due(2, "taken back: canChange", () -> x.canChange(0));
        Check.due(-1, "take back again", () -> x.lend(0, 2, HousePlans.NONE));
    }

    private static void unlockWhileLent() {
        HousePlans x = plans(1);
        x.lock(0, 1);
        x.lend(0, 1, 5);
        Check.forbidden("lock while lent", () -> lock(x, 0, 5));
        Check.forbidden("unlock while lent", () -> unlock(x, 0, 1));
        Check.forbidden("unlock by the borrower", () -> unlock(x, 0, 5));
        Check.due(5, "still lent: canChange", () -> x.canChange(0));
        x.lend(0, 1, -1);
        Check.due("nothing", "unlock", () -> unlock(x, 0, 1));
        x.lock(0, 4);
        Check.due(4, "nothing lent is left: canChange", () -> x.canChange(0));
        Check.due(-1, "nothing lent is left: lend", () -> x.lend(0, 4, 0));
    }

    private static void refusals() {
        HousePlans x = plans(1);
        x.lock(0, 3);
        for (int bad : new int[] {-1, 1, 6, MIN, MAX}) {
            Check.missing("lock", () -> lock(x, bad, 9));
            Check.missing("unlock", () -> unlock(x, bad, 9));
            Check.missing("lend", () -> x.lend(bad, 9, 9));
            Check.missing("canChange", () -> x.canChange(bad));
        }
        for (int bad : new int[] {-1, 6, MIN, MAX}) {
            Check.outOfRange("lock", () -> lock(x, 0, bad));
            Check.outOfRange("unlock", () -> unlock(x, 0, bad));
            Check.outOfRange("lend by", () -> x.lend(0, bad, 0));
        }
        for (int bad : new int[] {-2, 6, MIN, MAX}) {
            Check.outOfRange("lend to", () -> x.lend(0, 3, bad));
        }
        Check.outOfRange("lend to oneself", () -> x.lend(0, 3, 3));
        Check.due(3, "after all refused: canChange", () -> x.canChange(0));
    }

    private static void firstComesFirst() {
        HousePlans x = plans(1);
        x.lock(0, 3);
        Check.outOfRange("no such person, and locked", () -> lock(x, 0, 6));
        Check.outOfRange("no such person, and not his", () -> unlock(x, 0, -1));
        Check.outOfRange("both -1", () -> x.lend(0, -1, -1));
        Check.outOfRange("to no such person, and not his", () -> x.lend(0, 0, 6));
        Check.outOfRange("to oneself, and not his", () -> x.lend(0, 0, 0));
        Check.forbidden("not his", () -> x.lend(0, 0, 3));
    }
}
