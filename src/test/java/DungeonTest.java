/** Promises 17 and 19 to 24: what is in the rooms of dungeons, and how far they are. */
public final class DungeonTest {
    private static final Class<IndexOutOfBoundsException> INDEX = IndexOutOfBoundsException.class;
    private static final Class<IllegalArgumentException> ARGUMENT = IllegalArgumentException.class;
    private static final Class<IllegalStateException> STATE = IllegalStateException.class;
    private static final int[] WRONG = {-1, Integer.MIN_VALUE, Integer.MAX_VALUE};
    private static final int[] STEP = {-4, -1, 1, 4};

    /** Rows of rules: the first ones, the least, the most, and some between. */
    private static final int[][] RULES = {
        {3, 4, 3, 3, 10, 1}, {0, 0, 1, 0, 1, 0}, {20, 20, 9, 20, 50, 9}, {0, 20, 1, 0, 5, 0},
        {20, 0, 9, 0, 5, 0}, {0, 0, 9, 20, 5, 0}, {1, 1, 2, 1, 7, 3}, {7, 13, 5, 11, 20, 4}};
    private static final int[] SEEDS = {0, 1, 2, 17, 255, 256, 4095, 32768, 40000, 65534, 65535};

    public static void main(String[] args) {
        count();
        byHand();
        for (int[] rules : RULES) {
            for (int seed : SEEDS) {
                ModelDungeon model = new ModelDungeon(withSeed(rules, seed));
                for (int floor = 0; floor < 3; floor++) {
                    // Each floor by an object of its own: one is used for at most 512 calls.
                    RuleCrypts x = Crypts.grown(seed, rules);
                    sameAsModel(x, model.floors.get(floor), floor);
                    wellMade(x, floor);
                }
            }
        }
        wrongPlaces();
        Checks.end();
    }

    private static int[] withSeed(int[] rules, int seed) {
        int[] row = java.util.Arrays.copyOf(rules, 7);
        row[6] = seed;
        return row;
    }

    private static void count() {
        RuleCrypts x = new RuleCrypts();
        for (int i = 0; i < 20; i++) {
            Checks.due("17: dungeons()", x.dungeons(), i);
            x.open(i, 0);
            Checks.due("17: a day alone has none", x.dungeons(), i);
            x.handIn(0, 0);
            x.handIn(0, 0);
        }
        Checks.due("17: dungeons()", x.dungeons(), 20);
        x.open(20, 0);
        Checks.throwsDue("9: a 21st dungeon", STATE, () -> x.handIn(0, 0));
        Checks.due("18: it is not had", x.dungeonToday(), -1);
        x.open(19, 0);
        Checks.due("9: one of the 20", x.handIn(0, 0), 40);
        Checks.due("17: dungeons() after it", x.dungeons(), 20);
    }

    /** The seed 0 draws 74, 5624, 28652, 51790: from the room 0 to the right, then from it downwards. */
    private static void byHand() {
        RuleCrypts x = Crypts.grown(0, new int[] {0, 0, 1, 0, 1, 0});
        Checks.due("19: 0 up", x.hasDoor(0, 0, 0, 0), false);
        Checks.due("19: 0 left", x.hasDoor(0, 0, 0, 1), false);
        Checks.due("19: 0 right", x.hasDoor(0, 0, 0, 2), true);
        Checks.due("19: 0 down", x.hasDoor(0, 0, 0, 3), true);
        Checks.due("19: 1 left", x.hasDoor(0, 0, 1, 1), true);
        Checks.due("19: 4 up", x.hasDoor(0, 0, 4, 0), true);
        Checks.due("23: 1", x.way(0, 0, 1), 1);
        Checks.due("23: 4", x.way(0, 0, 4), 1);
    }

    private static void sameAsModel(RuleCrypts x, ModelFloor model, int floor) {
        Checks.due("22: stairs", x.stairs(0, floor), model.stairs);
        for (int room = 0; room < 16; room++) {
            for (int direction = 0; direction < 4; direction++) {
                Checks.due("19: hasDoor", x.hasDoor(0, floor, room, direction), model.door(room, direction));
            }
            Checks.due("20: monster", x.monster(0, floor, room), model.monster[room]);
            Checks.due("21: hasTreasure", x.hasTreasure(0, floor, room), model.treasure.contains(room));
            Checks.due("23: way", x.way(0, floor, room), model.way[room]);
            Checks.due("24: wayByDoors", x.wayByDoors(0, floor, room), model.way[room]);
        }
    }

    /** What must hold of any floor, whatever the model says. */
    private static void wellMade(RuleCrypts x, int floor) {
        int entry = floor == 0 ? 0 : x.stairs(0, floor - 1);
        Checks.due("20: no monster in the entry", x.monster(0, floor, entry), 0);
        Checks.due("23: the entry", x.way(0, floor, entry), 0);
        for (int room = 0; room < 16; room++) {
            int nearest = 99;
            for (int direction = 0; direction < 4; direction++) {
                if (x.hasDoor(0, floor, room, direction)) {
                    int next = room + STEP[direction];
                    Checks.due("19: a door is one of both", x.hasDoor(0, floor, next, 3 - direction), true);
                    nearest = Math.min(nearest, x.way(0, floor, next));
                }
            }
            if (room != entry) {
                Checks.due("23: one door from the nearest one beside", x.way(0, floor, room), nearest + 1);
            }
            int stairs = x.stairs(0, floor);
            boolean farther = x.way(0, floor, room) > x.way(0, floor, stairs);
            boolean asFar = x.way(0, floor, room) == x.way(0, floor, stairs) && room < stairs;
            Checks.due("22: the farthest room, the lowest of several", farther || asFar, false);
        }
    }

    private static void wrongPlaces() {
        RuleCrypts none = new RuleCrypts();
        none.open(0, 0);
        allThrow("no dungeon was had", none, 0, 0, 0);
        Checks.throwsDue("19: no dungeon was had, no direction", INDEX, () -> none.hasDoor(0, 0, 0, 4));
        RuleCrypts x = Crypts.grown(5, RULES[0]);
        allThrow("dungeon 1 of one", x, 1, 0, 0);
        allThrow("floor 3", x, 0, 3, 0);
        allThrow("room 16", x, 0, 0, 16);
        for (int wrong : WRONG) {
            allThrow("no dungeon", x, wrong, 0, 0);
            allThrow("no floor", x, 0, wrong, 0);
            allThrow("no room", x, 0, 0, wrong);
            Checks.throwsDue("19: no direction", ARGUMENT, () -> x.hasDoor(0, 0, 0, wrong));
            Checks.throwsDue("19: no direction, no room", INDEX, () -> x.hasDoor(0, 0, 16, wrong));
        }
        Checks.throwsDue("19: direction 4", ARGUMENT, () -> x.hasDoor(0, 2, 15, 4));
    }

    private static void allThrow(String why, RuleCrypts x, int dungeon, int floor, int room) {
        Checks.throwsDue("19: hasDoor, " + why, INDEX, () -> x.hasDoor(dungeon, floor, room, 0));
        Checks.throwsDue("20: monster, " + why, INDEX, () -> x.monster(dungeon, floor, room));
        Checks.throwsDue("21: hasTreasure, " + why, INDEX, () -> x.hasTreasure(dungeon, floor, room));
        Checks.throwsDue("23: way, " + why, INDEX, () -> x.way(dungeon, floor, room));
        Checks.throwsDue("24: wayByDoors, " + why, INDEX, () -> x.wayByDoors(dungeon, floor, room));
        if (room == 0) {
            Checks.throwsDue("22: stairs, " + why, INDEX, () -> x.stairs(dungeon, floor));
        }
    }
}
