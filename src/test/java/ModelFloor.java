import java.util.ArrayList;
import java.util.HashSet;
import java.util.List;
import java.util.Set;
import java.util.function.IntSupplier;

/** A floor of the model: a door is a text of its two rooms, the ways are those between all pairs. */
final class ModelFloor {
    final Set<String> doors = new HashSet<>();
    final int[] monster = new int[16];
    final Set<Integer> treasure = new HashSet<>();
    final int[] way = new int[16];
    final int[][] far = new int[16][16];
    final int entry;
    final int stairs;

    ModelFloor(int entry, int[] rules, IntSupplier draw) {
        this.entry = entry;
        ways(draw);
        for (int i = 0; i < rules[0]; i++) {
            int room = draw.getAsInt() % 16;
            open(room, draw.getAsInt() % 4);
        }
        for (int i = 0; i < rules[1]; i++) {
            int room = draw.getAsInt() % 16;
            int strength = draw.getAsInt() % rules[2] + 1;
            monster[room] = room == entry ? 0 : strength;
        }
        for (int i = 0; i < rules[3]; i++) {
            treasure.add(draw.getAsInt() % 16);
        }
        stairs = measure();
    }

    /** The room beside another, -1 if there is none. */
    static int beside(int room, int direction) {
        int row = room / 4 + new int[] {-1, 0, 0, 1}[direction];
        int column = room % 4 + new int[] {0, -1, 1, 0}[direction];
        return row < 0 || row > 3 || column < 0 || column > 3 ? -1 : 4 * row + column;
    }

    boolean door(int room, int direction) {
        int other = beside(room, direction);
        return doors.contains(Math.min(room, other) + "-" + Math.max(room, other));
    }

    private void open(int room, int direction) {
        int other = beside(room, direction);
        if (other >= 0) {
            doors.add(Math.min(room, other) + "-" + Math.max(room, other));
        }
    }

    private void ways(IntSupplier draw) {
        List<Integer> found = new ArrayList<>(List.of(entry));
        while (found.size() < 16) {
            int n = draw.getAsInt();
            int d = draw.getAsInt();
            List<Integer> turned = new ArrayList<>(found);
            java.util.Collections.rotate(turned, -(n % found.size()));
            step(found, turned, d);
        }
    }

    private void step(List<Integer> found, List<Integer> turned, int d) {
        for (int room : turned) {
            for (int direction = d; direction < d + 4; direction++) {
                int next = beside(room, direction % 4);
                if (next >= 0 && !found.contains(next)) {
                    open(room, direction % 4);
                    found.add(next);
                    return;
                }
            }
        }
    }

    /** Fills the ways by shortening over each room in between; answers the farthest room. */
    private int measure() {
        for (int a = 0; a < 16; a++) {
            for (int b = 0; b < 16; b++) {
                far[a][b] = a == b ? 0 : doors.contains(Math.min(a, b) + "-" + Math.max(a, b)) ? 1 : 99;
            }
        }
        for (int over = 0; over < 16; over++) {
            for (int a = 0; a < 16; a++) {
                for (int b = 0; b < 16; b++) {
                    far[a][b] = Math.min(far[a][b], far[a][over] + far[over][b]);
                }
            }
        }
        int farthest = 15;
        for (int room = 15; room >= 0; room--) {
            way[room] = far[entry][room];
            farthest = way[room] >= way[farthest] ? room : farthest;
        }
        return farthest;
    }
}
