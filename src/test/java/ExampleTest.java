/** The example of README.md, call by call: it must answer what the README says. */
public final class ExampleTest {
    public static void main(String[] args) {
        HousePlans plans = new HousePlans();
        Check.due(0, "ground = begin", () -> plans.begin());
        Check.due("nothing", "3 locks ground", () -> Whole.lock(plans, 0, 3));
        for (int each = 20; each < 25; each++) {
            int side = each;
            Check.due(-1, "a wall below the first row", () -> plans.tell(0, 3, side, 1));
        }
        Check.due(false, "an exit at 12", () -> plans.setExit(0, 3, 12, true));
        Check.due(2, "two rooms", () -> plans.rooms(0));
        Check.due(5, "the room of 24 is 5", () -> plans.room(0, 24));
        Check.due(-1, "the first row has no way out", () -> plans.doorsOut(0, 0));
        Check.due(20, "the side 20 would help", () -> plans.doorThatHelps(0, 0));

        Check.due(1, "mine = begin", () -> plans.begin());
        Check.due("nothing", "4 locks mine", () -> Whole.lock(plans, 1, 4));
        Check.due(false, "mine refers to ground", () -> plans.refer(1, 4, 0, true));
        Check.due(-1, "a door, where ground has a wall", () -> plans.tell(1, 4, 20, 2));
        Check.due(1, "a wall by ground", () -> plans.side(1, 21));
        Check.due(1, "out through one door", () -> plans.doorsOut(1, 0));
        Check.forbidden("grant for ground", () -> plans.grant(0));
        Check.due(0, "grant for mine", () -> plans.grant(1));
        Check.due(0, "print of mine", () -> plans.print(1));
        Check.due(0, "it keeps the permit", () -> plans.permitOf(0));
        Check.due(true, "it is good", () -> plans.isGood(0));

        Check.due(-1, "3 lends ground to 5", () -> plans.lend(0, 3, 5));
        Check.due(5, "5 can change it now", () -> plans.canChange(0));
        Check.due(1, "5 makes a wall a door", () -> plans.tell(0, 5, 22, 2));
        Check.due(false, "the permit for mine holds no more", () -> plans.holds(0));
        Check.due(false, "the print of mine is good no more", () -> plans.isGood(0));
        Check.due(1, "it is old", () -> plans.old());
        Check.end();
    }
}
