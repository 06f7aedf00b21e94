import java.util.function.Consumer;
import java.util.function.Supplier;

/** Boundaries of the promises 19 to 24: floors as they are grown, and questions for what is not there. */
final class DungeonBoundaries {
    private static final String NO_PLACE =
            "Throws `IndexOutOfBoundsException` if there is no such dungeon, floor or room";
    private static final int[] STEP = {-4, -1, 1, 4};

    /** Ways alone, without loops, monsters and treasures. */
    private static final int[] BARE = {0, 0, 1, 0};

    private DungeonBoundaries() {
    }

    static void addTo(Boundaries all) {
        addDraws(all);
        addDoors(all);
        addRooms(all);
        addWays(all);
        addPlaces(all);
    }

    private static void addDraws(Boundaries all) {
        all.add(19, "A dungeon is grown from a seed, 0 to 65535, and the six numbers of its rules.",
                DungeonBoundaries::leastAndMostSeed);
        all.add(19, "Numbers are drawn so: x is the seed at first; a draw makes x the remainder of 75 times x and 74,"
                + " together, by 65537, and tells x.", DungeonBoundaries::draws);
        all.add(19, "Nothing else draws.", DungeonBoundaries::nothingElseDraws);
    }

    private static void addDoors(Boundaries all) {
        all.add(19, "There are the floors 0, 1 and 2, grown one behind the other, each with the rooms 0 to 15 in four"
                + " rows of four: the room in row r and column c is 4 * r + c.", DungeonBoundaries::edges);
        all.add(19, "Directions are 0 up (to the row with the lesser number), 1 left, 2 right, 3 down.",
                DungeonBoundaries::directions);
        all.add(19, "A door between two rooms is one of both.", DungeonBoundaries::doorsOfBoth);
        all.add(19, "The rooms that are found are listed; at first the entry is.", DungeonBoundaries::firstWay);
        all.add(19, "As long as a room is not found: n and d are drawn.", DungeonBoundaries::fifteenDoors);
        all.add(19, "Going through the list from the place n (modulo its length) on, behind the last one to the first"
                + " one", DungeonBoundaries::listFromItsStart);
        all.add(19, "that is found then, the last one of the list", DungeonBoundaries::lastOfTheList);
        all.add(19, "the first one in the directions d, d + 1, d + 2, d + 3 (modulo 4)",
                DungeonBoundaries::directionsFromTheirStart);
        all.add(19, "As often as the loops tell, n and d are drawn", DungeonBoundaries::noLoops);
        all.add(19, "if there is one, and a door is not there", DungeonBoundaries::loopsAtEdges);
        all.add(19, "if there is one, and a door is not there", DungeonBoundaries::loopAtADoor);
        all.add(19, "As often as the loops tell, n and d are drawn", DungeonBoundaries::twentyLoops);
    }

    private static void addRooms(Boundaries all) {
        all.add(20, "As often as the monsters tell, n and s are drawn", DungeonBoundaries::noneToTwentyMonsters);
        all.add(20, "the room n modulo 16 gets a monster of the strength s modulo the strength, and 1, together",
                DungeonBoundaries::leastAndMostStrength);
        all.add(20, "in place of one that is there", DungeonBoundaries::monsterInPlace);
        all.add(20, "but the entry gets none", DungeonBoundaries::noneInTheEntry);
        all.add(20, "Returns the strength; 0 for none.", DungeonBoundaries::zeroForNone);
        all.add(21, "As often as the treasures tell, n is drawn", DungeonBoundaries::noneToTwentyTreasures);
        all.add(21, "the room n modulo 16 gets a treasure, one at most", DungeonBoundaries::oneTreasureAtMost);
        all.add(21, "Tells whether a room has a treasure at first.", DungeonBoundaries::treasureInTheEntry);
    }

    private static void addWays(Boundaries all) {
        all.add(22, "The stairs are in the room that is farthest from the entry by doors, of several the one with the"
                + " lowest number.", DungeonBoundaries::stairsOfSeveral);
        all.add(22, "Returns the room of the stairs of a floor.", DungeonBoundaries::stairsInFirstAndLastRoom);
        all.add(22, "A floor has an entry: the room 0 on the floor 0, on another one the room with the number of the"
                + " stairs of the floor above it.", DungeonBoundaries::entries);
        all.add(23, "Returns over how many doors one comes from the entry of a floor to a room at least.",
                DungeonBoundaries::nearestAndFarthest);
        all.add(24, "Ways are found by a search as a dungeon is grown, and once more by all doors.",
                DungeonBoundaries::sameWays);
        all.add(24, "Returns the same, by going over all doors as often as something becomes nearer.",
                DungeonBoundaries::longestWayByDoors);
    }

    private static void addPlaces(Boundaries all) {
        all.add(19, NO_PLACE, () -> noPlace((x, p) -> x.hasDoor(p[0], p[1], p[2], 0)));
        all.add(20, NO_PLACE, () -> noPlace((x, p) -> x.monster(p[0], p[1], p[2])));
        all.add(21, NO_PLACE, () -> noPlace((x, p) -> x.hasTreasure(p[0], p[1], p[2])));
        all.add(22, "Throws `IndexOutOfBoundsException` if there is no such dungeon or floor",
                DungeonBoundaries::noStairs);
        all.add(23, NO_PLACE, () -> noPlace((x, p) -> x.way(p[0], p[1], p[2])));
        all.add(24, NO_PLACE, () -> noPlace((x, p) -> x.wayByDoors(p[0], p[1], p[2])));
        all.add(19, "- `direction`: 0 to 3", DungeonBoundaries::leastAndMostDirection);
        all.add(19, "Throws `IllegalArgumentException` if direction is out of range",
                DungeonBoundaries::directionOutOfRange);
        all.add(19, "If several exceptions apply, the one that is named first in the throws clause is thrown",
                DungeonBoundaries::doorRefusedTwice);
    }

    private interface Question {
        void ask(RuleCrypts x, int[] place);
    }

    private static void floorsAre(RuleCrypts x, String... doors) {
        for (int floor = 0; floor < doors.length; floor++) {
            Checks.due("doors on the floor " + floor, Crypts.doors(x, 0, floor), doors[floor]);
        }
    }

    private static void leastAndMostSeed() {
        floorsAre(Crypts.grown(0, BARE), "ceea991991cb5211", "84e298985bd34772", "c662dee299da1111");
        floorsAre(Crypts.grown(65535, BARE), "c288defb99191521", "466a466b466b4663", "4ee2cbd299da1111");
    }

    /** By hand: the seed 0 draws 74 and 5624, 28652 and 51790; 65535 draws 65461 and 59911, 36883 and 13745. */
    private static void draws() {
        RuleCrypts least = Crypts.grown(0, BARE);
        Checks.due("5624 is 0 modulo 4: from the room 0 to the right", least.hasDoor(0, 0, 0, 2), true);
        Checks.due("28652 is 0 modulo 2, 51790 is 2 modulo 4: then downwards", least.hasDoor(0, 0, 0, 3), true);
        RuleCrypts most = Crypts.grown(65535, 20, 20, 9, 20);
        floorsAre(most, "cacadffbdf391521", "466a466bc66b5663", "ce6ad763deea1111");
        Checks.due("monsters", Crypts.monsters(most, 0, 2), "0093070600006015");
        Checks.due("treasures", Crypts.treasures(most, 0, 2), ".tt.tttttttt.t.t");
    }

    /** Each floor goes on where the one above it stopped: behind draws that came to nothing too. */
    private static void nothingElseDraws() {
        floorsAre(Crypts.grown(97, 1, 0, 1, 0), "ceea999999191143", "46e24ada85b95673", "c6629c62dfea1111");
        floorsAre(Crypts.grown(7, 1, 0, 1, 0), "ceea99119dea1111", "46ea84b9567b4663", "ce6a9da999911152");
        floorsAre(Crypts.grown(19, 0, 1, 9, 0), "ce6a19cb4b994311", "84e256b8c6f31472", "c662deea91115662");
        floorsAre(Crypts.grown(16, 0, 0, 1, 2), "c662de6a95215662", "84a894b994b95673", "c66adea999991111");
    }

    /** No door leads out, and none from the end of a row to the start of the next one. */
    private static void edges() {
        for (int seed : new int[] {0, 3, 588, 65535}) {
            RuleCrypts x = Crypts.grown(seed, 20, 0, 1, 0);
            for (int floor = 0; floor < 3; floor++) {
                for (int i = 0; i < 4; i++) {
                    Checks.due("up from the first row", x.hasDoor(0, floor, i, 0), false);
                    Checks.due("left from the first column", x.hasDoor(0, floor, 4 * i, 1), false);
                    Checks.due("right from the last column", x.hasDoor(0, floor, 4 * i + 3, 2), false);
                    Checks.due("down from the last row", x.hasDoor(0, floor, 12 + i, 3), false);
                }
                Checks.due("the last room is there", x.way(0, floor, 15) >= 0, true);
            }
        }
    }

    private static void directions() {
        RuleCrypts x = Crypts.grown(0, BARE);
        int[][] doors = {{0, 2, 1}, {1, 1, 0}, {0, 3, 4}, {4, 0, 0}};
        for (int[] door : doors) {
            Checks.due("from " + door[0] + " in " + door[1], x.hasDoor(0, 0, door[0], door[1]), true);
            Checks.due("one door from the entry", x.way(0, 0, Math.max(door[0], door[2])), 1);
        }
        Checks.due("up from 0", x.hasDoor(0, 0, 0, 0), false);
        Checks.due("left from 0", x.hasDoor(0, 0, 0, 1), false);
    }

    private static void doorsOfBoth() {
        RuleCrypts x = Crypts.grown(588, 20, 0, 1, 0);
        for (int room = 0; room < 16; room++) {
            for (int direction = 0; direction < 4; direction++) {
                if (x.hasDoor(0, 1, room, direction)) {
                    Checks.due("back to " + room, x.hasDoor(0, 1, room + STEP[direction], 3 - direction), true);
                }
            }
        }
    }

    /** The list has one room at first: whatever n is, the way begins in the entry, also in another one than 0. */
    private static void firstWay() {
        for (int seed : new int[] {0, 5, 22, 43, 65535}) {
            RuleCrypts x = Crypts.grown(seed, BARE);
            for (int floor = 0; floor < 3; floor++) {
                int entry = floor == 0 ? 0 : x.stairs(0, floor - 1);
                boolean open = false;
                for (int direction = 0; direction < 4; direction++) {
                    open |= x.hasDoor(0, floor, entry, direction);
                }
                Checks.due("a door in the entry", open, true);
                Checks.due("the way to it", x.way(0, floor, entry), 0);
            }
        }
    }

    /** Each room but the entry is found by one door: fifteen, and from each room a way to the entry. */
    private static void fifteenDoors() {
        for (int seed : new int[] {0, 2, 12991, 65535}) {
            RuleCrypts x = Crypts.grown(seed, BARE);
            for (int floor = 0; floor < 3; floor++) {
                Checks.due("doors on the floor " + floor, countDoors(Crypts.doors(x, 0, floor)), 15);
                for (int room = 0; room < 16; room++) {
                    int way = x.way(0, floor, room);
                    Checks.due("the room " + room + " is found", way >= 0 && way <= 15, true);
                }
            }
        }
    }

    private static int countDoors(String doors) {
        int sides = 0;
        for (char digit : doors.toCharArray()) {
            sides += Integer.bitCount(Character.digit(digit, 16));
        }
        return sides / 2;
    }

    /** The seed 2: n is 50009, the place 14 of 15, and from there to 10 all beside are found: the room 10 is. */
    private static void listFromItsStart() {
        floorsAre(Crypts.grown(2, BARE), "ce6a9d299da91111");
        floorsAre(Crypts.grown(20, BARE), "c288d6fbd2195621");
        floorsAre(Crypts.grown(22, BARE), "cee291d29cfa1111");
    }

    /** The seed 1: n is 57305, the place 1 of 2, and there is the room that was found last, the room 1. */
    private static void lastOfTheList() {
        RuleCrypts x = Crypts.grown(1, BARE);
        Checks.due("from the room 1 to the right", x.hasDoor(0, 0, 1, 2), true);
        floorsAre(x, "c66adea999991111");
    }

    /** The seed 42: d is 3 modulo 4 in the room 0 where down is found, and up and left are walls: right is next. */
    private static void directionsFromTheirStart() {
        floorsAre(Crypts.grown(42, BARE), "c662d6eada911152");
        floorsAre(Crypts.grown(64, BARE), "ce621deacb111562");
        floorsAre(Crypts.grown(82, BARE), "c288dad39dfa1111");
    }

    private static void noLoops() {
        RuleCrypts none = Crypts.grown(0, 0, 0, 1, 0);
        Checks.due("no loop", Crypts.doors(none, 0, 0), "ceea991991cb5211");
        RuleCrypts one = Crypts.grown(0, 1, 0, 1, 0);
        Checks.due("one loop, from 7 to the left", Crypts.doors(one, 0, 0), "ceea995b91cb5211");
    }

    /** One loop from 3 to the right, 4 to the left, 0 up, 15 down: nothing, neither out nor to the next row. */
    private static void loopsAtEdges() {
        floorsAre(Crypts.grown(97, 1, 0, 1, 0), "ceea999999191143");
        floorsAre(Crypts.grown(4, 1, 0, 1, 0), "c6ead211deea1111");
        floorsAre(Crypts.grown(19, 1, 0, 1, 0), "ce6a19cb4b994311");
        floorsAre(Crypts.grown(247, 1, 0, 1, 0), "ceea999999111562");
    }

    /** One loop from 9 to the right, where a door is. */
    private static void loopAtADoor() {
        RuleCrypts x = Crypts.grown(7, 1, 0, 1, 0);
        floorsAre(x, "ceea99119dea1111");
        Checks.due("the door stays", x.hasDoor(0, 0, 9, 2), true);
        Checks.due("and from 10 too", x.hasDoor(0, 0, 10, 1), true);
    }

    private static void twentyLoops() {
        RuleCrypts x = Crypts.grown(3, 20, 0, 1, 0);
        floorsAre(x, "ceea9d319dea5773", "cea8577b4eeb4773", "ceeadbdbdf395763");
        Checks.due("the most doors by this seed", countDoors(Crypts.doors(x, 0, 2)), 21);
    }

    private static void noneToTwentyMonsters() {
        RuleCrypts none = Crypts.grown(7, 0, 0, 9, 0);
        RuleCrypts one = Crypts.grown(7, 0, 1, 9, 0);
        RuleCrypts most = Crypts.grown(0, 20, 20, 9, 20);
        String[] due = {"0001586749605341", "0049506195962640", "0702000020105802"};
        for (int floor = 0; floor < 3; floor++) {
            Checks.due("none", Crypts.monsters(none, 0, floor), "0000000000000000");
            Checks.due("twenty", Crypts.monsters(most, 0, floor), due[floor]);
        }
        Checks.due("one on each floor", Crypts.monsters(one, 0, 0), "0000000009000000");
        Checks.due("one on each floor", Crypts.monsters(one, 0, 1), "0060000000000000");
        Checks.due("one on each floor", Crypts.monsters(one, 0, 2), "0000003000000000");
    }

    private static void leastAndMostStrength() {
        RuleCrypts least = Crypts.grown(0, 0, 20, 1, 0);
        Checks.due("the strength 1: 1 alone", Crypts.monsters(least, 0, 0), "0000111101111011");
        Checks.due("the strength 1: 1 alone", Crypts.monsters(least, 0, 1), "1101111111000101");
        Checks.due("s is 0 modulo 9: 1", Crypts.grown(0, 0, 1, 9, 0).monster(0, 0, 7), 1);
        Checks.due("s is 8 modulo 9: 9", Crypts.grown(7, 0, 1, 9, 0).monster(0, 0, 9), 9);
    }

    /** The seed 2 puts 3 into the room 5, and then 1. */
    private static void monsterInPlace() {
        Checks.due("the first one", Crypts.grown(2, 0, 1, 9, 0).monster(0, 0, 5), 3);
        RuleCrypts x = Crypts.grown(2, 0, 2, 9, 0);
        Checks.due("the second one, though weaker", Crypts.monsters(x, 0, 0), "0000010000000000");
    }

    /** The seed 19 has one for the room 0, the seed 10 on the floor 1 one for its entry, the room 15. */
    private static void noneInTheEntry() {
        Checks.due("none in the room 0", Crypts.monsters(Crypts.grown(19, 0, 1, 9, 0), 0, 0), "0000000000000000");
        RuleCrypts x = Crypts.grown(10, 0, 1, 9, 0);
        Checks.due("one in the room of the stairs", Crypts.monsters(x, 0, 0), "0000000000000003");
        Checks.due("none in the entry below", Crypts.monsters(x, 0, 1), "0000000000000000");
        Checks.due("the room 0 is no entry below", Crypts.grown(14, 0, 1, 9, 0).monster(0, 1, 0), 1);
    }

    private static void zeroForNone() {
        RuleCrypts x = Crypts.grown(7, 0, 1, 9, 0);
        for (int room = 0; room < 16; room++) {
            Checks.due("monster in " + room, x.monster(0, 0, room), room == 9 ? 9 : 0);
        }
        x.key(2);
        x.handIn(0, 0);
        x.judge(1);
        Checks.due("at first, whoever played", x.monster(0, 0, 9), 9);
    }

    private static void noneToTwentyTreasures() {
        RuleCrypts none = Crypts.grown(0, 20, 20, 9, 0);
        RuleCrypts one = Crypts.grown(19, 0, 0, 1, 1);
        RuleCrypts most = Crypts.grown(0, 20, 20, 9, 20);
        String[] dueOne = {"t...............", "......t.........", ".t.............."};
        String[] dueMost = {"tt.ttttt.t..tt.t", "ttttt.ttttt..ttt", "t.t.tttttttt.tt."};
        for (int floor = 0; floor < 3; floor++) {
            Checks.due("none", Crypts.treasures(none, 0, floor), "................");
            Checks.due("one on each floor", Crypts.treasures(one, 0, floor), dueOne[floor]);
            Checks.due("twenty", Crypts.treasures(most, 0, floor), dueMost[floor]);
        }
    }

    /** The seed 16 puts two into the room 10, to which the way is down, right, down, right. */
    private static void oneTreasureAtMost() {
        RuleCrypts x = Crypts.grown(16, 0, 0, 1, 2);
        Checks.due("one room has one", Crypts.treasures(x, 0, 0), "..........t.....");
        Crypts.plays(x, "drdr", 5, 0, -1);
        Crypts.plays(x, "drdrlr", 5, 0, -1);
    }

    private static void treasureInTheEntry() {
        RuleCrypts x = Crypts.grown(19, 0, 0, 1, 1);
        Checks.due("in the room 0", x.hasTreasure(0, 0, 0), true);
        Crypts.plays(x, "rl", 5, 0, -1);
        Checks.due("at first, whoever took it", x.hasTreasure(0, 0, 0), true);
        Checks.due("in the entry of the floor 1", Crypts.grown(1, 0, 0, 1, 20).hasTreasure(0, 1, 15), true);
    }

    /** The seed 22: 13 and 15 are farthest; 43: 7 and 15 are. */
    private static void stairsOfSeveral() {
        RuleCrypts x = Crypts.grown(22, BARE);
        Checks.due("the ways", Crypts.ways(x, 0, 0), "0123123425453656");
        Checks.due("of 13 and 15", x.stairs(0, 0), 13);
        RuleCrypts y = Crypts.grown(43, BARE);
        Checks.due("the ways", Crypts.ways(y, 0, 0), "0123145623453456");
        Checks.due("of 7 and 15", y.stairs(0, 0), 7);
    }

    private static void stairsInFirstAndLastRoom() {
        RuleCrypts x = Crypts.grown(2, BARE);
        Checks.due("in the room 15", x.stairs(0, 0), 15);
        Checks.due("in the room 0", x.stairs(0, 1), 0);
        Checks.due("on the last floor", x.stairs(0, 2), 14);
        Checks.due("in the room 1", Crypts.grown(6, BARE).stairs(0, 1), 1);
    }

    private static void entries() {
        RuleCrypts x = Crypts.grown(22, BARE);
        Checks.due("the floor 0", Crypts.ways(x, 0, 0), "0123123425453656");
        Checks.due("the floor 1, from 13", Crypts.ways(x, 0, 1), "4567345623271012");
        Checks.due("the floor 2, from 3", Crypts.ways(x, 0, 2), "3210432154326543");
    }

    private static void nearestAndFarthest() {
        RuleCrypts x = Crypts.grown(12991, BARE);
        Checks.due("the entry itself", x.way(0, 1, 15), 0);
        Checks.due("twelve doors", x.way(0, 1, 2), 12);
        Checks.due("all of the floor", Crypts.ways(x, 0, 1), "abc3943285417650");
        RuleCrypts loops = Crypts.grown(0, 3, 4, 3, 3);
        Checks.due("with loops, the nearer way", Crypts.ways(loops, 0, 1), "5454432332122101");
    }

    private static void sameWays() {
        for (int loops : new int[] {0, 20}) {
            RuleCrypts x = Crypts.grown(65535, loops, 0, 1, 0);
            for (int floor = 0; floor < 3; floor++) {
                for (int room = 0; room < 16; room++) {
                    Checks.due("by all doors", x.wayByDoors(0, floor, room), x.way(0, floor, room));
                }
            }
        }
    }

    /** From the room 15 back to 2 over twelve doors: against the order of the rooms. */
    private static void longestWayByDoors() {
        RuleCrypts x = Crypts.grown(12991, BARE);
        StringBuilder ways = new StringBuilder();
        for (int room = 0; room < 16; room++) {
            ways.append(Integer.toHexString(x.wayByDoors(0, 1, room)));
        }
        Checks.due("the floor 1", ways.toString(), "abc3943285417650");
        Checks.due("the entry", x.wayByDoors(0, 1, 15), 0);
        Checks.due("asked again", x.wayByDoors(0, 1, 2), 12);
        Checks.due("another floor behind it", x.wayByDoors(0, 0, 15), 6);
    }

    /** The least and the most place that is there, and what lies beyond each of its three numbers. */
    private static void noPlace(Question question) {
        RuleCrypts x = two();
        question.ask(x, new int[] {0, 0, 0});
        question.ask(x, new int[] {1, 2, 15});
        int[] counts = {2, 3, 16};
        for (int i = 0; i < 3; i++) {
            for (int wrong : Crypts.beyond(counts[i])) {
                int[] place = {1, 2, 15};
                place[i] = wrong;
                refused(place[0] + ", " + place[1] + ", " + place[2], DungeonBoundaries::two,
                        y -> question.ask(y, place));
            }
        }
        refused("0, 0, 0 of none", () -> Crypts.opened(0), y -> question.ask(y, new int[] {0, 0, 0}));
    }

    private static RuleCrypts two() {
        RuleCrypts x = Crypts.grown(3);
        x.open(4, 3);
        x.handIn(1, 0);
        return x;
    }

    private static void refused(String call, Supplier<RuleCrypts> made, Consumer<RuleCrypts> body) {
        Crypts.refused(call, Crypts.INDEX, made, body);
    }

    private static void noStairs() {
        RuleCrypts x = two();
        x.stairs(0, 0);
        x.stairs(1, 2);
        for (int dungeon : Crypts.beyond(2)) {
            refused("stairs(" + dungeon + ", 0)", DungeonBoundaries::two, y -> y.stairs(dungeon, 0));
        }
        for (int floor : Crypts.beyond(3)) {
            refused("stairs(0, " + floor + ")", DungeonBoundaries::two, y -> y.stairs(0, floor));
        }
        refused("stairs(0, 0) of none", () -> Crypts.opened(0), y -> y.stairs(0, 0));
    }

    private static void leastAndMostDirection() {
        RuleCrypts x = Crypts.grown(0, BARE);
        Checks.due("the direction 0, from 4", x.hasDoor(0, 0, 4, 0), true);
        Checks.due("the direction 3, from 0", x.hasDoor(0, 0, 0, 3), true);
        Checks.due("the direction 0, from 0", x.hasDoor(0, 0, 0, 0), false);
        Checks.due("the direction 3, from 15", x.hasDoor(0, 2, 15, 3), false);
    }

    private static void directionOutOfRange() {
        for (int direction : new int[] {-1, 4, 5, 32, 256, Integer.MIN_VALUE, Integer.MAX_VALUE}) {
            Crypts.refused("the direction " + direction, Crypts.ARGUMENT, DungeonBoundaries::two,
                    x -> x.hasDoor(0, 0, 0, direction));
            Crypts.refused("the direction " + direction, Crypts.ARGUMENT, DungeonBoundaries::two,
                    x -> x.hasDoor(1, 2, 15, direction));
        }
    }

    private static void doorRefusedTwice() {
        Checks.throwsDue("no dungeon, no direction", Crypts.INDEX, () -> two().hasDoor(2, 0, 0, 4));
        Checks.throwsDue("no floor, no direction", Crypts.INDEX, () -> two().hasDoor(0, 3, 0, -1));
        Checks.throwsDue("no room, no direction", Crypts.INDEX, () -> two().hasDoor(0, 0, 16, 4));
        Checks.throwsDue("none of it", Crypts.INDEX, () -> two().hasDoor(-1, -1, -1, -1));
    }
}
