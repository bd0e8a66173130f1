/** The section "Drawings" and the promises 1 to 8 at their edges, sentence by sentence. */
public final class EdgesOfDrawingsTest {
    private static final String ARGUMENT = Whole.ARGUMENT, STATE = Whole.STATE;
    private static final int[] WHATS =
            {HousePlans.NONE, HousePlans.OPEN, HousePlans.WALL, HousePlans.DOOR};
    private static final boolean[] BOTH = {false, true};

    /** Who cannot change the drawings of Houses.lived, each as drawing, then persons. */
    private static final int[][] CANNOT =
            {{0, 1, 2, 3, 4, 5}, {1, 0, 1, 2, 3, 5}, {2, 0, 1, 2, 3, 4, 5}, {3, 0, 1, 2, 4, 5}};

    public static void main(String[] args) {
        aNewObjectHasNoDrawings();
        beginReturnsItsNumber();
        beginThrowsIfThereAreSix();
        aBegunOneTellsNothingAndIsNotLocked();
        tellNeedsADrawing();
        tellNeedsNumbersInRange();
        tellNeedsWhoCanChange();
        tellListsTheArgumentsFirst();
        tellTakesTheLeastAndTheGreatest();
        tellReturnsWhatItToldBefore();
        tellOfNothingAnyMore();
        setExitNeedsADrawing();
        setExitNeedsNumbersInRange();
        setExitNeedsWhoCanChange();
        setExitListsTheArgumentsFirst();
        setExitTakesTheLeastAndTheGreatest();
        setExitReturnsWhatItToldBefore();
        referNeedsBothDrawings();
        referNeedsAPersonInRange();
        referNeedsWhoCanChange();
        referNotToItself();
        referNotToItselfOverOthers();
        referInADiamondIsNoCircle();
        referReturnsWhetherItDid();
        referTakesTheLeastAndTheGreatest();
        drawingsFromNoneToSix();
        sideNeedsNumbersInRange();
        sideIsWhatTheDrawingTellsItself();
        sideIsThatOfTheLowestInWhichItIsSomething();
        sideIsNothingIfThereIsNoneSuch();
        hasExitNeedsNumbersInRange();
        hasExitByItselfOrByAnother();
        Check.end();
    }

    // ---- promise 1

    /** "No drawings." */
    private static void aNewObjectHasNoDrawings() {
        HousePlans x = new HousePlans();
        Check.due(0, "new: drawings", () -> x.drawings());
        Check.missing("new: canChange", () -> x.canChange(0));
        Check.due(0, "new: the first begin", () -> x.begin());
    }

    // ---- promise 2

    /** "Drawings are numbered from 0", "Returns its number." */
    private static void beginReturnsItsNumber() {
        HousePlans x = new HousePlans();
        Check.due(0, "the first begin", () -> x.begin());
        Check.due(1, "the second begin", () -> x.begin());
        Check.due(5, "the sixth begin", () -> Houses.begun(5).begin());
    }

    /** "Throws IllegalStateException if there are 6" */
    private static void beginThrowsIfThereAreSix() {
        Whole.refused(STATE, "begin with 6 that tell nothing", () -> Houses.begun(6),
                x -> x.begin());
        Whole.refused(STATE, "begin with all there may be", Houses::full, x -> x.begin());
        HousePlans x = Houses.begun(6);
        Check.forbidden("begin", () -> x.begin());
        Check.forbidden("begin again", () -> x.begin());
        Check.due(6, "drawings", () -> x.drawings());
    }

    /** "Begins a drawing that tells nothing, and is not locked." */
    private static void aBegunOneTellsNothingAndIsNotLocked() {
        HousePlans x = Houses.lived();
        Check.due(4, "begin among others", () -> x.begin());
        Check.due(-1, "begun: canChange", () -> x.canChange(4));
        Check.forbidden("begun: tell", () -> x.tell(4, 0, 0, 1));
        for (int each = 0; each < 40; each++) {
            int side = each;
            Check.due(-1, "begun: side " + side, () -> x.side(4, side));
        }
        for (int each = 0; each < 25; each++) {
            int cell = each;
            Check.due(false, "begun: hasExit " + cell, () -> x.hasExit(4, cell));
        }
        x.lock(4, 5);
        Check.due(-1, "begun: what it told", () -> x.tell(4, 5, 20, 1));
        Check.due(false, "begun: its exit", () -> x.setExit(4, 5, 24, true));
        Check.due(false, "begun: it refers", () -> x.refer(4, 5, 0, false));
    }

    // ---- promise 3

    /** "Throws IndexOutOfBoundsException if there is no such drawing", whatever else is wrong. */
    private static void tellNeedsADrawing() {
        Whole.noDrawing("tell", (x, bad) -> x.tell(bad, 0, 0, HousePlans.WALL));
        Whole.noDrawing("tell, all wrong,", (x, bad) -> x.tell(bad, 6, 40, 3));
        Whole.noDrawing("tell, all too small,", (x, bad) -> x.tell(bad, -1, -1, -2));
    }

    /** "Throws IllegalArgumentException if person, side or what is out of range" */
    private static void tellNeedsNumbersInRange() {
        Whole.outside(ARGUMENT, "tell, person", Houses::lived, Whole.range(0, 5),
                (x, bad) -> x.tell(0, bad, 0, HousePlans.WALL));
        Whole.outside(ARGUMENT, "tell, side", Houses::lived, Whole.range(0, 39),
                (x, bad) -> x.tell(0, 0, bad, HousePlans.WALL));
        Whole.outside(ARGUMENT, "tell, what", Houses::lived,
                Whole.range(HousePlans.NONE, HousePlans.DOOR), (x, bad) -> x.tell(0, 0, 22, bad));
    }

    /** "Throws IllegalStateException if the person cannot change the drawing" */
    private static void tellNeedsWhoCanChange() {
        for (int[] row : CANNOT) {
            for (int each = 1; each < row.length; each++) {
                int person = row[each];
                Whole.refused(STATE, "tell of " + row[0] + " by " + person, Houses::lived,
                        x -> x.tell(row[0], person, 1, HousePlans.WALL));
            }
        }
        HousePlans x = Houses.lived();
        Check.due(-1, "tell by who locked it", () -> x.tell(0, 0, 1, 1));
        Check.due(-1, "tell by whom it is lent to", () -> x.tell(1, 4, 1, 1));
    }

    /** "if several apply, the one that it lists first is thrown" */
    private static void tellListsTheArgumentsFirst() {
        Whole.outside(ARGUMENT, "tell of one that is not locked, person", Houses::lived,
                Whole.range(0, 5), (x, bad) -> x.tell(2, bad, 0, HousePlans.WALL));
        Whole.outside(ARGUMENT, "tell by who cannot, side", Houses::lived, Whole.range(0, 39),
                (x, bad) -> x.tell(0, 5, bad, HousePlans.WALL));
        Whole.outside(ARGUMENT, "tell by who cannot, what", Houses::lived,
                Whole.range(HousePlans.NONE, HousePlans.DOOR), (x, bad) -> x.tell(1, 1, 22, bad));
    }

    /** The people 0 to 5, the sides 0 to 39, NONE to DOOR, the drawings 0 to 5. */
    private static void tellTakesTheLeastAndTheGreatest() {
        HousePlans x = Houses.locked(6);
        for (int side : new int[] {0, 39}) {
            for (int what : WHATS) {
                Check.due(-1, "tell in the first", () -> x.tell(0, 0, side, what));
                Check.due(what, "side in the first", () -> x.side(0, side));
                Check.due(what, "tell in the first", () -> x.tell(0, 0, side, HousePlans.NONE));
                Check.due(-1, "tell in the last", () -> x.tell(5, 5, side, what));
                Check.due(what, "side in the last", () -> x.side(5, side));
                Check.due(what, "tell in the last", () -> x.tell(5, 5, side, HousePlans.NONE));
            }
        }
        for (int each = 0; each < 40; each++) {
            int side = each;
            Check.due(-1, "tell of " + side, () -> x.tell(5, 5, side, side % 3));
        }
        for (int each = 0; each < 40; each++) {
            int side = each;
            Check.due(side % 3, "each side by itself: " + side, () -> x.side(5, side));
            Check.due(-1, "no other drawing: " + side, () -> x.side(4, side));
        }
    }

    /** "Returns what the drawing told of it before; NONE for nothing." */
    private static void tellReturnsWhatItToldBefore() {
        for (int before : WHATS) {
            for (int after : WHATS) {
                HousePlans x = Houses.locked(1);
                x.tell(0, 0, 17, before);
                Check.due(before, "what was told before", () -> x.tell(0, 0, 17, after));
                Check.due(after, "what is told now", () -> x.side(0, 17));
                Check.due(after, "what was told then", () -> x.tell(0, 0, 17, before));
            }
        }
        HousePlans x = Houses.locked(2);
        x.tell(1, 1, 17, HousePlans.WALL);
        x.refer(0, 0, 1, true);
        Check.due(-1, "it told nothing, though it is a WALL", () -> x.tell(0, 0, 17, 2));
    }

    /** "Tells of a side, or nothing any more." */
    private static void tellOfNothingAnyMore() {
        HousePlans x = Houses.locked(2);
        x.tell(0, 0, 39, HousePlans.DOOR);
        x.tell(0, 0, 39, HousePlans.NONE);
        Check.due(-1, "nothing any more: side", () -> x.side(0, 39));
        x.tell(1, 1, 39, HousePlans.WALL);
        x.refer(0, 0, 1, true);
        x.tell(0, 0, 39, HousePlans.DOOR);
        x.tell(0, 0, 39, HousePlans.NONE);
        Check.due(1, "nothing itself any more: side", () -> x.side(0, 39));
    }

    // ---- promise 4

    /** "Throws IndexOutOfBoundsException if there is no such drawing", whatever else is wrong. */
    private static void setExitNeedsADrawing() {
        Whole.noDrawing("setExit", (x, bad) -> x.setExit(bad, 0, 0, true));
        Whole.noDrawing("setExit, all wrong,", (x, bad) -> x.setExit(bad, 6, 25, true));
        Whole.noDrawing("setExit, all too small,", (x, bad) -> x.setExit(bad, -1, -1, false));
    }

    /** "Throws IllegalArgumentException if person or cell is out of range" */
    private static void setExitNeedsNumbersInRange() {
        for (boolean has : BOTH) {
            Whole.outside(ARGUMENT, "setExit, person", Houses::lived, Whole.range(0, 5),
                    (x, bad) -> x.setExit(0, bad, 0, has));
            Whole.outside(ARGUMENT, "setExit, cell", Houses::lived, Whole.range(0, 24),
                    (x, bad) -> x.setExit(0, 0, bad, has));
        }
    }

    /** "Throws IllegalStateException if the person cannot change the drawing" */
    private static void setExitNeedsWhoCanChange() {
        for (int[] row : CANNOT) {
            for (int each = 1; each < row.length; each++) {
                int person = row[each];
                Whole.refused(STATE, "setExit in " + row[0] + " by " + person, Houses::lived,
                        x -> x.setExit(row[0], person, 7, true));
                Whole.refused(STATE, "setExit off in " + row[0] + " by " + person, Houses::lived,
                        x -> x.setExit(row[0], person, row[0] == 1 ? 24 : 0, false));
            }
        }
        HousePlans x = Houses.lived();
        Check.due(false, "setExit by who locked it", () -> x.setExit(0, 0, 7, true));
        Check.due(true, "setExit by whom it is lent to", () -> x.setExit(1, 4, 24, false));
    }

    /** "if several apply, the one that it lists first is thrown" */
    private static void setExitListsTheArgumentsFirst() {
        Whole.outside(ARGUMENT, "setExit in one that is not locked, person", Houses::lived,
                Whole.range(0, 5), (x, bad) -> x.setExit(2, bad, 0, true));
        Whole.outside(ARGUMENT, "setExit by who cannot, cell", Houses::lived, Whole.range(0, 24),
                (x, bad) -> x.setExit(1, 1, bad, true));
    }

    /** The people 0 to 5, the cells 0 to 24, the drawings 0 to 5. */
    private static void setExitTakesTheLeastAndTheGreatest() {
        HousePlans x = Houses.locked(6);
        for (int number : new int[] {0, 5}) {
            for (int cell : new int[] {0, 24}) {
                Check.due(false, "setExit", () -> x.setExit(number, number, cell, true));
                Check.due(true, "setExit: hasExit", () -> x.hasExit(number, cell));
                Check.due(true, "setExit off", () -> x.setExit(number, number, cell, false));
                Check.due(false, "setExit off: hasExit", () -> x.hasExit(number, cell));
            }
        }
        for (int cell = 0; cell < 25; cell += 2) {
            x.setExit(5, 5, cell, true);
        }
        for (int each = 0; each < 25; each++) {
            int cell = each;
            Check.due(cell % 2 == 0, "each cell by itself: " + cell, () -> x.hasExit(5, cell));
            Check.due(false, "no other drawing: " + cell, () -> x.hasExit(4, cell));
        }
    }

    /** "Returns whether the drawing told so before." */
    private static void setExitReturnsWhatItToldBefore() {
        for (boolean before : BOTH) {
            for (boolean after : BOTH) {
                HousePlans x = Houses.locked(1);
                x.setExit(0, 0, 11, before);
                Check.due(before, "told before", () -> x.setExit(0, 0, 11, after));
                Check.due(after, "told now", () -> x.hasExit(0, 11));
                Check.due(after, "told then", () -> x.setExit(0, 0, 11, before));
            }
        }
        HousePlans x = Houses.locked(2);
        x.setExit(1, 1, 11, true);
        x.refer(0, 0, 1, true);
        Check.due(false, "it told of none, though it has one", () -> x.setExit(0, 0, 11, true));
        Check.due(true, "it told of one, as the other does", () -> x.setExit(0, 0, 11, false));
        Check.due(true, "by the other still", () -> x.hasExit(0, 11));
    }

    // ---- promise 5

    /** "Throws IndexOutOfBoundsException if there is no such drawing, of either" */
    private static void referNeedsBothDrawings() {
        for (boolean does : BOTH) {
            Whole.noDrawing("refer", (x, bad) -> x.refer(bad, 0, 0, does));
            Whole.noDrawing("refer, nobody", (x, bad) -> x.refer(bad, 6, 0, does));
            Whole.noDrawing("refer to", (x, bad) -> x.refer(0, 0, bad, does));
            Whole.noDrawing("refer to, nobody", (x, bad) -> x.refer(0, -1, bad, does));
            Whole.noDrawing("refer to, who cannot", (x, bad) -> x.refer(0, 5, bad, does));
            Whole.noDrawing("refer, both", (x, bad) -> x.refer(bad, 0, bad, does));
        }
    }

    /** "Throws IllegalArgumentException if person is out of range", also where the state forbids */
    private static void referNeedsAPersonInRange() {
        for (boolean does : BOTH) {
            Whole.outside(ARGUMENT, "refer, person", Houses::lived, Whole.range(0, 5),
                    (x, bad) -> x.refer(0, bad, 3, does));
            Whole.outside(ARGUMENT, "refer of one that is not locked, person", Houses::lived,
                    Whole.range(0, 5), (x, bad) -> x.refer(2, bad, 3, does));
            Whole.outside(ARGUMENT, "refer to itself, person", Houses::lived, Whole.range(0, 5),
                    (x, bad) -> x.refer(0, bad, 0, does));
            Whole.outside(ARGUMENT, "refer in a circle, person", Houses::lived, Whole.range(0, 5),
                    (x, bad) -> x.refer(1, bad, 0, does));
        }
    }

    /** "Throws IllegalStateException if the person cannot change the drawing" */
    private static void referNeedsWhoCanChange() {
        for (int[] row : CANNOT) {
            for (int each = 1; each < row.length; each++) {
                int person = row[each];
                int other = row[0] == 3 ? 2 : 3;
                Whole.refused(STATE, "refer of " + row[0] + " by " + person, Houses::lived,
                        x -> x.refer(row[0], person, other, true));
                Whole.refused(STATE, "refer no more of " + row[0] + " by " + person,
                        Houses::lived, x -> x.refer(row[0], person, row[0] == 0 ? 1 : 0, false));
            }
        }
        HousePlans x = Houses.lived();
        Check.due(false, "refer by who locked it, to what he cannot change",
                () -> x.refer(0, 0, 3, true));
        Check.due(false, "refer by whom it is lent to", () -> x.refer(1, 4, 2, true));
    }

    /** "A drawing can refer to others, but not to itself" */
    private static void referNotToItself() {
        for (int each = 0; each < 6; each++) {
            int number = each;
            Whole.refused(STATE, number + " refers to itself", Houses::full,
                    x -> x.refer(number, number, number, true));
        }
        HousePlans x = Houses.locked(1);
        Check.due(false, "it does not, and need not", () -> x.refer(0, 0, 0, false));
    }

    /** "but not to itself, over others or not", "if does is true, some drawing would" */
    private static void referNotToItselfOverOthers() {
        Whole.refused(STATE, "a circle of two", Houses::lived, x -> x.refer(1, 4, 0, true));
        for (int each = 0; each < 6; each++) {
            int to = each;
            Whole.refused(STATE, "a circle, from the end of a chain to " + to,
                    EdgesOfDrawingsTest::chain, x -> x.refer(0, 0, to, true));
            Check.due(false, "no circle is asked for", () -> chain().refer(0, 0, to, false));
        }
        for (int each = 1; each < 5; each++) {
            int from = each;
            Whole.refused(STATE, "a circle, from within a chain: " + from,
                    EdgesOfDrawingsTest::chain, x -> x.refer(from, from, from + 1, true));
        }
        HousePlans x = chain();
        Check.due(true, "the chain is cut", () -> x.refer(3, 3, 2, false));
        Check.due(false, "no circle any more", () -> x.refer(0, 0, 5, true));
        Check.forbidden("a circle now", () -> x.refer(3, 3, 2, true));
        Check.due(false, "no circle: another branch", () -> x.refer(5, 5, 3, true));
    }

    /** 5 refers to 4, 4 to 3, and so on to 0. */
    private static HousePlans chain() {
        HousePlans x = Houses.locked(6);
        for (int number = 5; number > 0; number--) {
            x.refer(number, number, number - 1, true);
        }
        return x;
    }

    private static void referInADiamondIsNoCircle() {
        HousePlans x = Houses.locked(6);
        Check.due(false, "the left upper side", () -> x.refer(0, 0, 1, true));
        Check.due(false, "the right upper side", () -> x.refer(0, 0, 2, true));
        Check.due(false, "the left lower side", () -> x.refer(1, 1, 3, true));
        Check.due(false, "the right lower side", () -> x.refer(2, 2, 3, true));
        Check.due(false, "straight through", () -> x.refer(0, 0, 3, true));
        Check.forbidden("and back", () -> x.refer(3, 3, 0, true));
        HousePlans all = Houses.locked(6);
        for (int low = 0; low < 6; low++) {
            for (int high = low + 1; high < 6; high++) {
                int from = low;
                int to = high;
                Check.due(false, "all to all above", () -> all.refer(from, from, to, true));
                Check.forbidden("none to one below", () -> all.refer(to, to, from, true));
            }
        }
    }

    /** "Returns whether it did." */
    private static void referReturnsWhetherItDid() {
        for (boolean before : BOTH) {
            for (boolean after : BOTH) {
                HousePlans x = Houses.locked(2);
                x.refer(0, 0, 1, before);
                Check.due(before, "it did before", () -> x.refer(0, 0, 1, after));
                Check.due(after, "it did then", () -> x.refer(0, 0, 1, before));
                Check.due(false, "the other did not", () -> x.refer(1, 1, 0, false));
            }
        }
        HousePlans x = chain();
        Check.due(false, "over others is not itself", () -> x.refer(5, 5, 0, true));
        Check.due(true, "now itself", () -> x.refer(5, 5, 0, false));
        Check.due(false, "to another is not to this", () -> x.refer(5, 5, 3, false));
        Check.due(true, "the others stay", () -> x.refer(5, 5, 4, false));
    }

    /** The drawings 0 to 5, of either, and the people 0 to 5. */
    private static void referTakesTheLeastAndTheGreatest() {
        HousePlans x = Houses.locked(6);
        x.tell(5, 5, 0, HousePlans.DOOR);
        Check.due(false, "the first to the last", () -> x.refer(0, 0, 5, true));
        Check.due(2, "the first by the last", () -> x.side(0, 0));
        Check.due(true, "the first to the last no more", () -> x.refer(0, 0, 5, false));
        Check.due(-1, "the first by itself", () -> x.side(0, 0));
        x.tell(0, 0, 39, HousePlans.WALL);
        Check.due(false, "the last to the first", () -> x.refer(5, 5, 0, true));
        Check.due(1, "the last by the first", () -> x.side(5, 39));
        Check.due(true, "the last to the first no more", () -> x.refer(5, 5, 0, false));
        Check.due(-1, "the last by itself", () -> x.side(5, 39));
    }

    // ---- promise 6

    /** "Returns the number of drawings.", "there are at most 6" */
    private static void drawingsFromNoneToSix() {
        HousePlans x = new HousePlans();
        for (int each = 0; each < 6; each++) {
            int number = each;
            Check.due(number, "drawings", () -> x.drawings());
            Check.missing("not begun", () -> x.side(number, 0));
            x.begin();
            Check.due(-1, "begun", () -> x.side(number, 0));
        }
        Check.due(6, "drawings", () -> x.drawings());
        Check.missing("never begun", () -> x.side(6, 0));
    }

    // ---- promise 7

    private static void sideNeedsNumbersInRange() {
        Whole.noDrawing("side", (x, bad) -> x.side(bad, 0));
        Whole.noDrawing("side 40", (x, bad) -> x.side(bad, 40));
        Whole.noDrawing("side -1", (x, bad) -> x.side(bad, -1));
        Whole.outside(ARGUMENT, "side", Houses::lived, Whole.range(0, 39),
                (x, bad) -> x.side(0, bad));
        Whole.outside(ARGUMENT, "side of one that is not locked", Houses::lived,
                Whole.range(0, 39), (x, bad) -> x.side(2, bad));
        HousePlans x = Houses.locked(6);
        x.tell(0, 0, 0, 2);
        x.tell(5, 5, 39, 1);
        Check.due(2, "the least", () -> x.side(0, 0));
        Check.due(1, "the greatest", () -> x.side(5, 39));
    }

    /** "what the drawing tells of it itself", also where others tell of it. */
    private static void sideIsWhatTheDrawingTellsItself() {
        for (int own : WHATS) {
            for (int others : WHATS) {
                HousePlans x = Houses.locked(3);
                x.tell(0, 0, 8, others);
                x.tell(1, 1, 8, own);
                x.refer(1, 1, 0, true);
                int due = own == HousePlans.NONE ? others : own;
                Check.due(due, own + " over " + others, () -> x.side(1, 8));
                Check.due(others, others + " under " + own, () -> x.side(0, 8));
            }
        }
    }

    /** "what it is in the one with the lowest number, of those to which it refers, in which ..." */
    private static void sideIsThatOfTheLowestInWhichItIsSomething() {
        for (int low : WHATS) {
            for (int high : WHATS) {
                HousePlans x = Houses.locked(6);
                x.refer(3, 3, 5, true);
                x.refer(3, 3, 0, true);
                x.tell(0, 0, 8, low);
                x.tell(5, 5, 8, high);
                int due = low == HousePlans.NONE ? high : low;
                Check.due(due, low + " before " + high, () -> x.side(3, 8));
            }
        }
        HousePlans x = Houses.locked(6);
        x.refer(4, 4, 1, true);
        x.refer(4, 4, 2, true);
        x.refer(1, 1, 5, true);
        x.refer(2, 2, 0, true);
        x.tell(0, 0, 8, HousePlans.WALL);
        Check.due(1, "nothing in 1, so as in 2", () -> x.side(4, 8));
        x.tell(5, 5, 8, HousePlans.DOOR);
        Check.due(2, "something in 1, by 5", () -> x.side(4, 8));
        x.tell(2, 2, 8, HousePlans.OPEN);
        Check.due(2, "1 still goes before 2", () -> x.side(4, 8));
        x.refer(1, 1, 5, false);
        Check.due(0, "as in 2, not as in 0", () -> x.side(4, 8));
    }

    /** "if there is none such, nothing", "NONE for nothing" */
    private static void sideIsNothingIfThereIsNoneSuch() {
        HousePlans x = chain();
        for (int each = 0; each < 6; each++) {
            int number = each;
            Check.due(-1, "nothing in any", () -> x.side(number, 21));
        }
        x.tell(5, 5, 21, HousePlans.WALL);
        Check.due(-1, "nothing in those to which it refers", () -> x.side(4, 21));
        Check.due(-1, "nothing, and it refers to none", () -> x.side(0, 21));
        x.tell(0, 0, 22, HousePlans.OPEN);
        Check.due(0, "OPEN is not nothing, over five", () -> x.side(5, 22));
    }

    // ---- promise 8

    private static void hasExitNeedsNumbersInRange() {
        Whole.noDrawing("hasExit", (x, bad) -> x.hasExit(bad, 0));
        Whole.noDrawing("hasExit at 25", (x, bad) -> x.hasExit(bad, 25));
        Whole.noDrawing("hasExit at -1", (x, bad) -> x.hasExit(bad, -1));
        Whole.outside(ARGUMENT, "hasExit", Houses::lived, Whole.range(0, 24),
                (x, bad) -> x.hasExit(0, bad));
        Whole.outside(ARGUMENT, "hasExit of one that is not locked", Houses::lived,
                Whole.range(0, 24), (x, bad) -> x.hasExit(2, bad));
        HousePlans x = Houses.locked(6);
        x.setExit(0, 0, 0, true);
        x.setExit(5, 5, 24, true);
        Check.due(true, "the least", () -> x.hasExit(0, 0));
        Check.due(true, "the greatest", () -> x.hasExit(5, 24));
        Check.due(false, "the least of the last", () -> x.hasExit(5, 0));
        Check.due(false, "the greatest of the first", () -> x.hasExit(0, 24));
    }

    /** "if the drawing tells so itself, or if it has one in one to which it refers" */
    private static void hasExitByItselfOrByAnother() {
        for (boolean own : BOTH) {
            for (boolean low : BOTH) {
                for (boolean high : BOTH) {
                    HousePlans x = Houses.locked(6);
                    x.refer(2, 2, 0, true);
                    x.refer(2, 2, 5, true);
                    x.setExit(2, 2, 13, own);
                    x.setExit(0, 0, 13, low);
                    x.setExit(5, 5, 13, high);
                    Check.due(own || low || high, "hasExit", () -> x.hasExit(2, 13));
                    Check.due(low, "hasExit of the low one", () -> x.hasExit(0, 13));
                    Check.due(high, "hasExit of the high one", () -> x.hasExit(5, 13));
                    Check.due(false, "hasExit beside it", () -> x.hasExit(2, 14));
                }
            }
        }
        HousePlans x = chain();
        x.setExit(0, 0, 24, true);
        Check.due(true, "hasExit over five", () -> x.hasExit(5, 24));
        x.refer(1, 1, 0, false);
        Check.due(false, "hasExit, the chain cut", () -> x.hasExit(5, 24));
    }
}
