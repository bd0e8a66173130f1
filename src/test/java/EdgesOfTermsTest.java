/** "What it is", the constants and what the section "Terms" says of all calls, at their edges. */
public final class EdgesOfTermsTest {
    public static void main(String[] args) {
        theConstants();
        theLastCallOfAnObject();
        theLastCallAfterRefusedOnes();
        theLastCallOfAFullObject();
        objectsAreByThemselves();
        onlyChangesNeedALock();
        Check.end();
    }

    /** "NONE = -1", "OPEN = 0, WALL = 1, DOOR = 2" */
    private static void theConstants() {
        Check.due(-1, "NONE", () -> HousePlans.NONE);
        Check.due(0, "OPEN", () -> HousePlans.OPEN);
        Check.due(1, "WALL", () -> HousePlans.WALL);
        Check.due(2, "DOOR", () -> HousePlans.DOOR);
    }

    /** "An object is used for at most 512 calls after it has been made": the last one counts. */
    private static void theLastCallOfAnObject() {
        HousePlans x = Houses.locked(1);
        for (int call = 3; call < 511; call++) {
            int side = call % 40;
            int due = call < 43 ? -1 : what(call - 40);
            int now = what(call);
            Check.due(due, "call " + call + ": tell", () -> x.tell(0, 0, side, now));
        }
        Check.due(what(510), "call 511: side", () -> x.side(0, 510 % 40));
        Check.due(what(471), "call 512: side", () -> x.side(0, 471 % 40));
    }

    private static int what(int call) {
        return call % 7 % 4 - 1;
    }

    private static void theLastCallAfterRefusedOnes() {
        HousePlans x = Houses.locked(1);
        for (int call = 3; call < 512; call++) {
            int drawing = call % 3 == 0 ? 1 : 0;
            int person = call % 3 == 1 ? 6 : 1;
            String due = call % 3 == 0 ? Whole.INDEX : call % 3 == 1 ? Whole.ARGUMENT : Whole.STATE;
            Check.due(due, "call " + call + ": tell", () -> x.tell(drawing, person, 0, 1));
        }
        Check.due(-1, "call 512: side", () -> x.side(0, 0));
    }

    /** The dearest calls: every drawing refers to all above it, and all rooms lie in a chain. */
    private static void theLastCallOfAFullObject() {
        HousePlans x = Houses.full();
        int calls = 6 + 6 + 6 + 20 + 30 + 1;
        for (int from = 0; from < 6; from++) {
            for (int to = from + 1; to < 6; to++) {
                x.refer(from, from, to, true);
                calls++;
            }
        }
        for (int side = 0; side < 40; side++) {
            x.tell(5, 5, side, HousePlans.DOOR);
            calls++;
        }
        while (calls < 512) {
            calls++;
            int call = calls;
            if (call % 2 == 0) {
                Check.due(30, "call " + call + ": old", () -> x.old());
            } else {
                Check.due(4, "call " + call + ": doorsOut", () -> x.doorsOut(0, 24));
            }
        }
    }

    private static void objectsAreByThemselves() {
        HousePlans one = Houses.full();
        HousePlans two = new HousePlans();
        Check.due(0, "the second object: drawings", () -> two.drawings());
        Check.due(0, "the second object: begin", () -> two.begin());
        Check.due(-1, "the second object: canChange", () -> two.canChange(0));
        Check.due(6, "the first object: drawings", () -> one.drawings());
        Check.due(1, "the first object: rooms", () -> one.rooms(3));
        two.lock(0, 0);
        two.tell(0, 0, 39, HousePlans.WALL);
        two.tell(0, 0, 19, HousePlans.WALL);
        Check.due(2, "the second object: rooms", () -> two.rooms(0));
        Check.due(1, "the first object: rooms", () -> one.rooms(0));
        Check.due(true, "the first object: holds", () -> one.holds(0));
    }

    /** "walls, rooms, ways out, permits and prints can be asked for": of what nobody has locked. */
    private static void onlyChangesNeedALock() {
        HousePlans x = Houses.begun(1);
        Check.due(-1, "not locked: side", () -> x.side(0, 0));
        Check.due(false, "not locked: hasExit", () -> x.hasExit(0, 0));
        Check.due(1, "not locked: rooms", () -> x.rooms(0));
        Check.due(0, "not locked: room", () -> x.room(0, 24));
        Check.due(25, "not locked: size", () -> x.size(0, 24));
        Check.due(-1, "not locked: doorsOut", () -> x.doorsOut(0, 24));
        Check.due(-1, "not locked: doorThatHelps", () -> x.doorThatHelps(0, 24));
        Check.due(0, "not locked: print", () -> x.print(0));
        x.lock(0, 0);
        x.setExit(0, 0, 0, true);
        x.unlock(0, 0);
        Check.due(0, "unlocked: grant", () -> x.grant(0));
        Check.forbidden("unlocked: tell", () -> x.tell(0, 0, 0, 1));
        Check.forbidden("unlocked: setExit", () -> x.setExit(0, 0, 0, false));
    }
}
