/** Promises 1 to 8: a new object, begin, tell, setExit, refer, drawings, side, hasExit. */
public final class DrawingsTest {
    private static final int MIN = Integer.MIN_VALUE, MAX = Integer.MAX_VALUE;

    public static void main(String[] args) {
        newObject();
        begin();
        tell();
        tellRefuses();
        setExit();
        setExitRefuses();
        refer();
        referRefuses();
        referGoesInNoCircle();
        side();
        sideGoesByTheLowestThatTells();
        hasExit();
        Check.end();
    }

    /** So many drawings, each locked by the person with its number. */
    private static HousePlans plans(int drawings) {
        HousePlans x = new HousePlans();
        for (int number = 0; number < drawings; number++) {
            x.begin();
            x.lock(number, number);
        }
        return x;
    }

    private static void newObject() {
        HousePlans x = new HousePlans();
        Check.due(0, "new: drawings()", () -> x.drawings());
        Check.due(0, "new: old()", () -> x.old());
        Check.missing("new: side(0, 0)", () -> x.side(0, 0));
        Check.missing("new: holds(0)", () -> x.holds(0));
        Check.missing("new: isGood(0)", () -> x.isGood(0));
        Check.missing("new: permitOf(0)", () -> x.permitOf(0));
    }

    private static void begin() {
        HousePlans x = new HousePlans();
        for (int number = 0; number < 6; number++) {
            Check.due(number, "begin()", () -> x.begin());
            int last = number;
            Check.due(number + 1, "drawings()", () -> x.drawings());
            Check.due(-1, "begun: canChange", () -> x.canChange(last));
            Check.due(1, "begun: rooms", () -> x.rooms(last));
        }
        Check.forbidden("the seventh begin()", () -> x.begin());
        Check.due(6, "drawings() at most", () -> x.drawings());
        for (int each = 0; each < 40; each++) {
            int side = each;
            Check.due(-1, "begun: side " + side, () -> x.side(5, side));
        }
        for (int each = 0; each < 25; each++) {
            int cell = each;
            Check.due(false, "begun: hasExit " + cell, () -> x.hasExit(5, cell));
        }
    }

    private static void tell() {
        HousePlans x = plans(2);
        Check.due(-1, "tell WALL", () -> x.tell(0, 0, 7, HousePlans.WALL));
        Check.due(1, "tell DOOR", () -> x.tell(0, 0, 7, HousePlans.DOOR));
        Check.due(2, "tell DOOR again", () -> x.tell(0, 0, 7, HousePlans.DOOR));
        Check.due(2, "tell OPEN", () -> x.tell(0, 0, 7, HousePlans.OPEN));
        Check.due(0, "tell NONE", () -> x.tell(0, 0, 7, HousePlans.NONE));
        Check.due(-1, "tell NONE again", () -> x.tell(0, 0, 7, HousePlans.NONE));
        Check.due(-1, "tell side 0", () -> x.tell(0, 0, 0, 1));
        Check.due(-1, "tell side 39", () -> x.tell(0, 0, 39, 2));
        Check.due(1, "side 0", () -> x.side(0, 0));
        Check.due(2, "side 39", () -> x.side(0, 39));
        Check.due(-1, "side 38", () -> x.side(0, 38));
        Check.due(-1, "side 0 of the other", () -> x.side(1, 0));
        Check.due(false, "refer", () -> x.refer(1, 1, 0, true));
        Check.due(-1, "tell answers what it told itself", () -> x.tell(1, 1, 39, 0));
    }

    private static void tellRefuses() {
        HousePlans x = plans(1);
        x.tell(0, 0, 3, 2);
        for (int drawing : new int[] {-1, 1, MIN, MAX}) {
            Check.missing("tell drawing", () -> x.tell(drawing, 9, 99, 9));
        }
        for (int bad : new int[] {-1, 6, MIN, MAX}) {
            Check.outOfRange("tell person", () -> x.tell(0, bad, 3, 1));
        }
        for (int bad : new int[] {-1, 40, MIN, MAX}) {
            Check.outOfRange("tell side", () -> x.tell(0, 0, bad, 1));
            Check.outOfRange("tell side, not who can", () -> x.tell(0, 1, bad, 1));
        }
        for (int bad : new int[] {-2, 3, MIN, MAX}) {
            Check.outOfRange("tell what", () -> x.tell(0, 0, 3, bad));
            Check.outOfRange("tell what, not who can", () -> x.tell(0, 1, 3, bad));
        }
        Check.forbidden("tell, not who can", () -> x.tell(0, 1, 3, 1));
        Check.due(2, "side after all refused", () -> x.side(0, 3));
        x.unlock(0, 0);
        Check.forbidden("tell unlocked", () -> x.tell(0, 0, 3, 1));
        x.lock(0, 5);
        Check.due(2, "tell by person 5", () -> x.tell(0, 5, 3, 1));
        x.lend(0, 5, 4);
        Check.forbidden("tell, lent away", () -> x.tell(0, 5, 3, 0));
        Check.due(1, "tell by the borrower", () -> x.tell(0, 4, 3, 0));
    }

    private static void setExit() {
        HousePlans x = plans(2);
        Check.due(false, "setExit", () -> x.setExit(0, 0, 24, true));
        Check.due(true, "setExit again", () -> x.setExit(0, 0, 24, true));
        Check.due(true, "hasExit", () -> x.hasExit(0, 24));
        Check.due(false, "hasExit of another", () -> x.hasExit(0, 23));
        Check.due(false, "hasExit elsewhere", () -> x.hasExit(1, 24));
        Check.due(false, "setExit 0", () -> x.setExit(0, 0, 0, true));
        x.refer(1, 1, 0, true);
        Check.due(false, "setExit answers what it told itself", () -> x.setExit(1, 1, 24, false));
        Check.due(true, "setExit off", () -> x.setExit(0, 0, 24, false));
        Check.due(false, "setExit off again", () -> x.setExit(0, 0, 24, false));
        Check.due(false, "hasExit off", () -> x.hasExit(0, 24));
        Check.due(true, "hasExit 0", () -> x.hasExit(0, 0));
    }

    private static void setExitRefuses() {
        HousePlans x = plans(1);
        for (int drawing : new int[] {-1, 1, MIN, MAX}) {
            Check.missing("setExit drawing", () -> x.setExit(drawing, 9, 99, true));
        }
        for (int bad : new int[] {-1, 6, MIN, MAX}) {
            Check.outOfRange("setExit person", () -> x.setExit(0, bad, 3, true));
        }
        for (int bad : new int[] {-1, 25, MIN, MAX}) {
            Check.outOfRange("setExit cell", () -> x.setExit(0, 0, bad, true));
            Check.outOfRange("setExit cell, not who can", () -> x.setExit(0, 1, bad, true));
        }
        Check.forbidden("setExit, not who can", () -> x.setExit(0, 1, 3, true));
        x.lend(0, 0, 2);
        Check.forbidden("setExit, lent away", () -> x.setExit(0, 0, 3, true));
        Check.due(false, "hasExit after all refused", () -> x.hasExit(0, 3));
        Check.due(false, "setExit by the borrower", () -> x.setExit(0, 2, 3, true));
        Check.due(true, "hasExit", () -> x.hasExit(0, 3));
    }

    private static void refer() {
        HousePlans x = plans(3);
        x.tell(2, 2, 10, 1);
        Check.due(false, "refer", () -> x.refer(0, 0, 2, true));
        Check.due(true, "refer again", () -> x.refer(0, 0, 2, true));
        Check.due(1, "side by reference", () -> x.side(0, 10));
        Check.due(-1, "references go one way", () -> x.refer(1, 1, 2, false) ? 0 : x.side(1, 10));
        Check.due(true, "refer no more", () -> x.refer(0, 0, 2, false));
        Check.due(false, "refer no more again", () -> x.refer(0, 0, 2, false));
        Check.due(-1, "side by reference no more", () -> x.side(0, 10));
        Check.due(false, "not to itself", () -> x.refer(0, 0, 0, false));
        Check.due(false, "the other way now", () -> x.refer(2, 2, 0, true));
    }

    private static void referRefuses() {
        HousePlans x = plans(2);
        for (int bad : new int[] {-1, 2, 6, MIN, MAX}) {
            Check.missing("refer drawing", () -> x.refer(bad, 9, 1, true));
            Check.missing("refer other", () -> x.refer(0, 0, bad, true));
            Check.missing("refer other, not more", () -> x.refer(0, 9, bad, false));
            Check.missing("refer other, not who can", () -> x.refer(0, 1, bad, false));
        }
        for (int bad : new int[] {-1, 6, MIN, MAX}) {
            Check.outOfRange("refer person", () -> x.refer(0, bad, 1, true));
            Check.outOfRange("refer person, to itself", () -> x.refer(0, bad, 0, true));
        }
        Check.forbidden("refer, not who can", () -> x.refer(0, 1, 1, true));
        Check.forbidden("refer not, not who can", () -> x.refer(0, 1, 1, false));
        Check.forbidden("refer to itself", () -> x.refer(0, 0, 0, true));
        Check.due(false, "refer after all refused", () -> x.refer(0, 0, 1, false));
    }

    private static void referGoesInNoCircle() {
        HousePlans x = plans(6);
        for (int number = 0; number < 5; number++) {
            int from = number;
            Check.due(false, "a chain", () -> x.refer(from, from, from + 1, true));
        }
        for (int number = 0; number < 5; number++) {
            int to = number;
            Check.forbidden("a circle to " + to, () -> x.refer(5, 5, to, true));
            Check.due(false, "no circle came to be", () -> x.refer(5, 5, to, false));
        }
        Check.forbidden("a circle in the midst", () -> x.refer(3, 3, 1, true));
        Check.due(false, "a short cut", () -> x.refer(0, 0, 5, true));
        Check.due(true, "cut", () -> x.refer(2, 2, 3, false));
        Check.forbidden("still a circle, by the short cut", () -> x.refer(5, 5, 0, true));
        Check.due(false, "no circle any more", () -> x.refer(5, 5, 1, true));
    }

    private static void side() {
        HousePlans x = plans(6);
        for (int number = 0; number < 5; number++) {
            x.refer(number, number, number + 1, true);
        }
        Check.due(-1, "the end of the chain", () -> x.tell(5, 5, 12, HousePlans.OPEN));
        Check.due(0, "side over five", () -> x.side(0, 12));
        x.tell(5, 5, 12, HousePlans.DOOR);
        Check.due(2, "side over five", () -> x.side(0, 12));
        x.tell(2, 2, 12, HousePlans.OPEN);
        Check.due(0, "OPEN is something", () -> x.side(0, 12));
        Check.due(2, "below it is what it was", () -> x.side(3, 12));
        x.tell(2, 2, 12, HousePlans.NONE);
        Check.due(2, "nothing lets one look on", () -> x.side(0, 12));
        for (int bad : new int[] {-1, 6, MIN, MAX}) {
            Check.missing("side of no drawing", () -> x.side(bad, 99));
        }
        for (int bad : new int[] {-1, 40, MIN, MAX}) {
            Check.outOfRange("no such side", () -> x.side(0, bad));
        }
    }

    private static void sideGoesByTheLowestThatTells() {
        HousePlans x = plans(4);
        x.refer(3, 3, 2, true);
        x.refer(3, 3, 1, true);
        x.tell(2, 2, 0, 2);
        Check.due(2, "only the higher tells", () -> x.side(3, 0));
        x.tell(1, 1, 0, 1);
        Check.due(1, "the lowest that tells", () -> x.side(3, 0));
        x.tell(1, 1, 0, -1);
        x.refer(1, 1, 0, true);
        x.tell(0, 0, 0, 0);
        Check.due(0, "the lowest is something by reference", () -> x.side(3, 0));
        x.tell(3, 3, 0, 1);
        Check.due(1, "what it tells itself comes first", () -> x.side(3, 0));
    }

    private static void hasExit() {
        HousePlans x = plans(6);
        for (int number = 0; number < 5; number++) {
            x.refer(number + 1, number + 1, number, true);
        }
        x.refer(5, 5, 2, true);
        x.setExit(0, 0, 12, true);
        Check.due(true, "hasExit over five", () -> x.hasExit(5, 12));
        Check.due(true, "hasExit over one", () -> x.hasExit(1, 12));
        Check.due(false, "setExit off above", () -> x.setExit(5, 5, 12, false));
        Check.due(true, "hasExit is not taken away above", () -> x.hasExit(5, 12));
        x.setExit(4, 4, 0, true);
        Check.due(true, "hasExit above", () -> x.hasExit(5, 0));
        Check.due(false, "hasExit below", () -> x.hasExit(3, 0));
        for (int bad : new int[] {-1, 6, MIN, MAX}) {
            Check.missing("hasExit of no drawing", () -> x.hasExit(bad, 99));
        }
        for (int bad : new int[] {-1, 25, MIN, MAX}) {
            Check.outOfRange("no such cell", () -> x.hasExit(0, bad));
        }
    }
}
