import java.util.ArrayList;
import java.util.List;
import java.util.TreeSet;

/**
 * The document told a second time, in other ways than the program's: references are gone over as a
 * list in the order of asking, rooms are sets that are filled from a cell, and a door that helps is
 * found by trying every wall. It tests no arguments: the runs make calls that it says are allowed.
 */
final class Model {
    final int[][] told = new int[6][40];
    final boolean[][] exits = new boolean[6][25];
    final boolean[][] refers = new boolean[6][6];
    final int[] locker = new int[6];
    final int[] borrower = new int[6];
    int drawings;
    final List<String> permits = new ArrayList<>();
    final List<String> prints = new ArrayList<>();
    final List<Integer> permitsOfPrints = new ArrayList<>();

    Model() {
        for (int drawing = 0; drawing < 6; drawing++) {
            java.util.Arrays.fill(told[drawing], -1);
            locker[drawing] = -1;
            borrower[drawing] = -1;
        }
    }

    int changer(int drawing) {
        return borrower[drawing] >= 0 ? borrower[drawing] : locker[drawing];
    }

    /** The drawing and all to which it refers, each at its first place in the order of asking. */
    List<Integer> asked(int drawing) {
        List<Integer> order = new ArrayList<>();
        List<Integer> waiting = new ArrayList<>(List.of(drawing));
        while (!waiting.isEmpty()) {
            int next = waiting.remove(waiting.size() - 1);
            if (!order.contains(next)) {
                order.add(next);
                for (int other = 5; other >= 0; other--) {
                    if (refers[next][other]) {
                        waiting.add(other);
                    }
                }
            }
        }
        return order;
    }

    int[] sides(int drawing) {
        int[] sides = new int[40];
        for (int side = 0; side < 40; side++) {
            sides[side] = -1;
            for (int each : asked(drawing)) {
                if (sides[side] < 0) {
                    sides[side] = told[each][side];
                }
            }
        }
        return sides;
    }

    boolean hasExit(int drawing, int cell) {
        for (int each : asked(drawing)) {
            if (exits[each][cell]) {
                return true;
            }
        }
        return false;
    }

    /** The side between two cells; -1 if they are not beside one another. */
    private static int between(int one, int other) {
        int low = Math.min(one, other);
        int high = Math.max(one, other);
        if (high == low + 5) {
            return 20 + low;
        }
        return high == low + 1 && high % 5 != 0 ? 4 * (low / 5) + low % 5 : -1;
    }

    TreeSet<Integer> roomOf(int[] sides, int cell) {
        TreeSet<Integer> room = new TreeSet<>(List.of(cell));
        for (int round = 0; round < 25; round++) {
            for (int one = 0; one < 25; one++) {
                for (int other = 0; other < 25; other++) {
                    int side = between(one, other);
                    if (side >= 0 && sides[side] <= 0 && room.contains(one)) {
                        room.add(other);
                    }
                }
            }
        }
        return room;
    }

    TreeSet<Integer> names(int drawing) {
        TreeSet<Integer> names = new TreeSet<>();
        int[] sides = sides(drawing);
        for (int cell = 0; cell < 25; cell++) {
            names.add(roomOf(sides, cell).first());
        }
        return names;
    }

    /** The fewest doors from a cell to an exit: the way is made longer until one is reached. */
    int doorsOut(int[] sides, int drawing, int cell) {
        int[] far = new int[25];
        java.util.Arrays.fill(far, 99);
        far[cell] = 0;
        boolean shorter = true;
        while (shorter) {
            shorter = false;
            for (int one = 0; one < 25; one++) {
                for (int other = 0; other < 25; other++) {
                    int side = between(one, other);
                    if (side >= 0 && sides[side] != 1) {
                        int way = far[one] + (sides[side] == 2 ? 1 : 0);
                        if (way < far[other]) {
                            far[other] = way;
                            shorter = true;
                        }
                    }
                }
            }
        }
        int least = 99;
        for (int each = 0; each < 25; each++) {
            if (hasExit(drawing, each)) {
                least = Math.min(least, far[each]);
            }
        }
        return least == 99 ? -1 : least;
    }

    int doorThatHelps(int drawing, int cell) {
        int[] sides = sides(drawing);
        if (doorsOut(sides, drawing, cell) >= 0) {
            return -1;
        }
        for (int side = 0; side < 40; side++) {
            if (sides[side] == 1) {
                sides[side] = 2;
                if (doorsOut(sides, drawing, cell) >= 0) {
                    return side;
                }
                sides[side] = 1;
            }
        }
        return -1;
    }

    boolean allGetOut(int drawing) {
        int[] sides = sides(drawing);
        for (int cell = 0; cell < 25; cell++) {
            if (doorsOut(sides, drawing, cell) < 0) {
                return false;
            }
        }
        return true;
    }

    /** All sides and exits of a drawing, with its number ahead. */
    String picture(int drawing) {
        StringBuilder text = new StringBuilder().append(drawing);
        for (int what : sides(drawing)) {
            text.append(',').append(what);
        }
        for (int cell = 0; cell < 25; cell++) {
            text.append(hasExit(drawing, cell) ? '!' : '.');
        }
        return text.toString();
    }

    boolean isNow(String picture) {
        return picture.equals(picture(picture.charAt(0) - '0'));
    }

    int print(int drawing) {
        int permit = -1;
        for (int each = 0; each < permits.size(); each++) {
            if (permits.get(each).equals(picture(drawing))) {
                permit = each;
            }
        }
        prints.add(picture(drawing));
        permitsOfPrints.add(permit);
        return prints.size() - 1;
    }

    int old() {
        int count = 0;
        for (String picture : prints) {
            count += isNow(picture) ? 0 : 1;
        }
        return count;
    }
}
