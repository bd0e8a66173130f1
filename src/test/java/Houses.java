/** Objects in states that the tests share; each state is always made by the same calls. */
final class Houses {
    private Houses() {
    }

    /** No drawings, permits or prints yet. */
    static HousePlans none() {
        return new HousePlans();
    }

    /** So many drawings that tell nothing and are not locked. */
    static HousePlans begun(int drawings) {
        HousePlans x = new HousePlans();
        for (int number = 0; number < drawings; number++) {
            x.begin();
        }
        return x;
    }

    /** So many drawings that tell nothing, each locked by the person with its number. */
    static HousePlans locked(int drawings) {
        HousePlans x = begun(drawings);
        for (int number = 0; number < drawings; number++) {
            x.lock(number, number);
        }
        return x;
    }

    /** One drawing that tells the same of all sides, locked by person 0. */
    static HousePlans telling(int what) {
        HousePlans x = locked(1);
        for (int side = 0; side < 40; side++) {
            x.tell(0, 0, side, what);
        }
        return x;
    }

    /**
     * Four drawings, three permits and four prints. Drawing 0 is locked by person 0 and refers to
     * drawing 1; 1 is locked by 1 and lent to 4; 2 is not locked; 3 is locked by 3. Each room of 0
     * and 1 has a way out, none of 2 and 3; the permits 0 and 1 and the prints 0 and 1 are old.
     */
    static HousePlans lived() {
        HousePlans x = locked(4);
        for (int side = 20; side < 25; side++) {
            x.tell(1, 1, side, HousePlans.WALL);
        }
        x.tell(1, 1, 22, HousePlans.DOOR);
        x.setExit(1, 1, 24, true);
        x.tell(0, 0, 30, HousePlans.OPEN);
        x.setExit(0, 0, 0, true);
        x.refer(0, 0, 1, true);
        x.grant(0);
        x.grant(1);
        x.print(0);
        x.print(1);
        x.tell(1, 1, 39, HousePlans.WALL);
        x.tell(2, 2, 0, HousePlans.DOOR);
        x.grant(0);
        x.print(0);
        x.print(2);
        x.lend(1, 1, 4);
        x.unlock(2, 2);
        return x;
    }

    /**
     * As many drawings, permits and prints as there may be: each drawing is locked by the person
     * with its number and has an exit; the permits and prints go round the drawings.
     */
    static HousePlans full() {
        HousePlans x = locked(6);
        for (int number = 0; number < 6; number++) {
            x.setExit(number, number, number, true);
        }
        for (int number = 0; number < 20; number++) {
            x.grant(number % 6);
        }
        for (int number = 0; number < 30; number++) {
            x.print(number % 6);
        }
        x.tell(3, 3, 39, HousePlans.DOOR);
        return x;
    }
}
