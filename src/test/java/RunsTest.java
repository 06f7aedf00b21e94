import java.util.ArrayList;
import java.util.List;

/** Promises 9, 10 and 25 to 32: runs, the judge, ranks and glory. */
public final class RunsTest {
    private static final Class<IndexOutOfBoundsException> INDEX = IndexOutOfBoundsException.class;
    private static final Class<IllegalArgumentException> ARGUMENT = IllegalArgumentException.class;
    private static final Class<IllegalStateException> STATE = IllegalStateException.class;
    private static final int[] WRONG = {-1, Integer.MIN_VALUE, Integer.MAX_VALUE};
    private static final int[] STEP = {-4, -1, 1, 4};
    private static final int DOWN = 4;
    private static final int REST = 5;

    public static void main(String[] args) {
        handingIn();
        handingInWrongly();
        wrongRuns();
        walkingOut();
        wall();
        goingDownElsewhere();
        dying();
        fightingOnce();
        treasures();
        treasureInTheEntry();
        deadMenTakeNoTreasure();
        resting();
        verdicts();
        ranks();
        ranksByDungeon();
        glory();
        mendedPack();
        Checks.end();
    }

    private static int handIn(RuleCrypts x, int player, int score, List<Integer> keys) {
        for (int key : keys) {
            x.key(key);
        }
        return x.handIn(player, score);
    }

    private static int entry(RuleCrypts x, int dungeon, int floor) {
        return floor == 0 ? 0 : x.stairs(dungeon, floor - 1);
    }

    /** The keys that go from the entry of a floor to a room by a shortest way. */
    private static List<Integer> wayTo(RuleCrypts x, int dungeon, int floor, int room) {
        List<Integer> keys = new ArrayList<>();
        int here = room;
        // No way is longer than 15 doors; the bound lets a broken class fail instead of going on for ever.
        for (int i = 0; i < 16 && x.way(dungeon, floor, here) > 0; i++) {
            for (int direction = 0; direction < 4; direction++) {
                if (x.hasDoor(dungeon, floor, here, direction)
                        && x.way(dungeon, floor, here + STEP[direction]) < x.way(dungeon, floor, here)) {
                    keys.add(0, 3 - direction);
                    here += STEP[direction];
                    break;
                }
            }
        }
        return keys;
    }

    private static List<Integer> wayOut(RuleCrypts x, int dungeon) {
        List<Integer> keys = new ArrayList<>();
        for (int floor = 0; floor < 3; floor++) {
            keys.addAll(wayTo(x, dungeon, floor, x.stairs(dungeon, floor)));
            keys.add(DOWN);
        }
        return keys;
    }

    private static List<Integer> join(List<Integer> keys, int... more) {
        List<Integer> all = new ArrayList<>(keys);
        for (int key : more) {
            all.add(key);
        }
        return all;
    }

    private static void played(String call, RuleCrypts x, List<Integer> keys, int score, int end) {
        int run = handIn(x, 0, score, keys);
        Checks.due("28: scoreOf, " + call, x.scoreOf(run), score);
        Checks.due("29: endOf, " + call, x.endOf(run), end);
        Checks.due("10: judge, " + call, x.judge(run), -1);
    }

    private static void handingIn() {
        RuleCrypts x = new RuleCrypts();
        x.open(5, 0);
        for (int i = 0; i < 60; i++) {
            Checks.due("25: runs()", x.runs(), i);
            Checks.due("9: handIn", x.handIn(i % 8, i % 2 == 0 ? -100 : 1000), i);
            Checks.due("26: dungeonOf", x.dungeonOf(i), 0);
            Checks.due("27: verdict", x.verdict(i), -3);
            Checks.due("30: rank", x.rank(i), -1);
        }
        x.key(REST);
        Checks.throwsDue("9: a 61st run", STATE, () -> x.handIn(0, 0));
        Checks.throwsDue("9: a 61st run, no player", INDEX, () -> x.handIn(8, 0));
        Checks.throwsDue("9: a 61st run, no score", ARGUMENT, () -> x.handIn(0, 1001));
        Checks.due("25: runs() after it", x.runs(), 60);
        x.open(6, 0);
        Checks.throwsDue("9: a 61st run, in another dungeon", STATE, () -> x.handIn(0, 0));
        Checks.due("17: which is not had", x.dungeons(), 1);
        Checks.due("8: the draft stands", x.wipe(), 1);
    }

    private static void handingInWrongly() {
        RuleCrypts x = new RuleCrypts();
        Checks.throwsDue("9: no day", STATE, () -> x.handIn(0, 0));
        Checks.throwsDue("9: no day, no score", ARGUMENT, () -> x.handIn(0, -101));
        Checks.throwsDue("9: no day, no score, no player", INDEX, () -> x.handIn(8, -101));
        x.open(0, 0);
        Checks.throwsDue("9: player 8", INDEX, () -> x.handIn(8, 0));
        Checks.throwsDue("9: score 1001", ARGUMENT, () -> x.handIn(0, 1001));
        Checks.throwsDue("9: score -101", ARGUMENT, () -> x.handIn(0, -101));
        for (int wrong : WRONG) {
            Checks.throwsDue("9: no player", INDEX, () -> x.handIn(wrong, 0));
        }
        Checks.throwsDue("9: no score", ARGUMENT, () -> x.handIn(0, Integer.MAX_VALUE));
        Checks.throwsDue("9: no score", ARGUMENT, () -> x.handIn(0, Integer.MIN_VALUE));
        Checks.due("25: runs()", x.runs(), 0);
        Checks.due("17: dungeons()", x.dungeons(), 0);
    }

    private static void wrongRuns() {
        RuleCrypts x = new RuleCrypts();
        x.open(0, 0);
        x.handIn(0, 0);
        int[] runs = {1, -1, 60, Integer.MIN_VALUE, Integer.MAX_VALUE};
        for (int run : runs) {
            Checks.throwsDue("10: judge", INDEX, () -> x.judge(run));
            Checks.throwsDue("26: dungeonOf", INDEX, () -> x.dungeonOf(run));
            Checks.throwsDue("27: verdict", INDEX, () -> x.verdict(run));
            Checks.throwsDue("28: scoreOf", INDEX, () -> x.scoreOf(run));
            Checks.throwsDue("29: endOf", INDEX, () -> x.endOf(run));
            Checks.throwsDue("30: rank", INDEX, () -> x.rank(run));
            Checks.throwsDue("31: no dungeon", INDEX, () -> x.ranked(run, 0));
            Checks.throwsDue("31: no dungeon, rank below 0", INDEX, () -> x.ranked(run, -1));
        }
        for (int wrong : WRONG) {
            Checks.throwsDue("32: no player", INDEX, () -> x.glory(wrong));
        }
        Checks.throwsDue("32: player 8", INDEX, () -> x.glory(8));
        Checks.throwsDue("31: rank below 0", ARGUMENT, () -> x.ranked(0, -1));
        Checks.throwsDue("31: rank below 0", ARGUMENT, () -> x.ranked(0, Integer.MIN_VALUE));
        Checks.due("31: not so many", x.ranked(0, Integer.MAX_VALUE), -1);
    }

    private static void walkingOut() {
        for (int seed = 0; seed < 12; seed++) {
            RuleCrypts x = Crypts.grown(seed, 20, 0, 1, 0, 1, 0);
            List<Integer> keys = wayOut(x, 0);
            played("out", x, keys, 20, 2);
            played("at the last stairs", x, keys.subList(0, keys.size() - 1), 0, 0);
            played("nothing", x, List.of(), 0, 0);
            int run = handIn(x, 0, 20, join(keys, REST));
            Checks.due("10: a turn when out", x.judge(run), keys.size());
            Checks.due("28: it does not count", x.scoreOf(run), 20);
            Checks.due("29: out all the same", x.endOf(run), 2);
            run = handIn(x, 0, 40, join(keys, DOWN));
            Checks.due("10: down when out", x.judge(run), keys.size());
            Checks.due("28: it does not count", x.scoreOf(run), 20);
        }
    }

    private static void wall() {
        RuleCrypts x = Crypts.grown(77, 0, 0, 1, 0, 1, 0);
        for (int key = 0; key < 4; key++) {
            boolean door = x.hasDoor(0, 0, 0, key);
            int run = handIn(x, 0, -1, List.of(REST, key));
            Checks.due("10: key " + key + " in the room 0", x.judge(run), door ? -1 : 1);
            Checks.due("28: scoreOf", x.scoreOf(run), -1);
            Checks.due("29: endOf", x.endOf(run), 0);
        }
    }

    private static void goingDownElsewhere() {
        RuleCrypts x = Crypts.grown(78, 3, 0, 1, 0, 1, 0);
        List<Integer> keys = wayTo(x, 0, 0, x.stairs(0, 0));
        int run = handIn(x, 0, 0, List.of(DOWN));
        Checks.due("10: down in the entry", x.judge(run), 0);
        run = handIn(x, 0, 0, join(join(keys.subList(0, keys.size() - 1), DOWN), REST));
        Checks.due("10: down one room before", x.judge(run), keys.size() - 1);
        Checks.due("28: no later turn counts", x.scoreOf(run), 0);
        // The entry of the floor 1 is behind the stairs, which lead no way back and no way on.
        run = handIn(x, 0, 0, join(keys, DOWN, DOWN));
        Checks.due("10: down in the entry of the floor 1", x.judge(run), keys.size() + 1);
    }

    /** A room on the floor 0 with a monster, over rooms without one; -1 if there is none. */
    private static int firstMonster(RuleCrypts x) {
        for (int room = 1; room < 16; room++) {
            if (x.monster(0, 0, room) > 0 && monstersOnWay(x, room) == x.monster(0, 0, room)) {
                return room;
            }
        }
        return -1;
    }

    private static int monstersOnWay(RuleCrypts x, int room) {
        int sum = 0;
        int here = 0;
        for (int key : wayTo(x, 0, 0, room)) {
            here += STEP[key];
            sum += x.monster(0, 0, here);
        }
        return sum;
    }

    private static void dying() {
        for (int seed = 0; seed < 12; seed++) {
            RuleCrypts weak = Crypts.grown(seed, 3, 20, 9, 0, 1, 9);
            int room = firstMonster(weak);
            int strength = weak.monster(0, 0, room);
            List<Integer> keys = wayTo(weak, 0, 0, room);
            played("dead", weak, keys, strength, 1);
            for (int key = 0; key < 6; key++) {
                int run = handIn(weak, 0, strength, join(keys, key));
                Checks.due("10: key " + key + " when dead", weak.judge(run), keys.size());
                Checks.due("28: it does not count", weak.scoreOf(run), strength);
                Checks.due("29: dead all the same", weak.endOf(run), 1);
            }
            RuleCrypts even = Crypts.grown(seed, 3, 20, 9, 0, strength, 0);
            played("dead with a health of 0", even, keys, strength, 1);
            RuleCrypts one = Crypts.grown(seed, 3, 20, 9, 0, strength + 1, 0);
            played("alive with a health of 1", one, keys, strength, 0);
        }
    }

    private static void fightingOnce() {
        for (int seed = 0; seed < 12; seed++) {
            RuleCrypts x = Crypts.grown(seed, 3, 20, 9, 0, 50, 0);
            int room = firstMonster(x);
            int strength = x.monster(0, 0, room);
            List<Integer> keys = wayTo(x, 0, 0, room);
            int last = keys.get(keys.size() - 1);
            int before = keys.size() == 1 ? 0 : x.monster(0, 0, room - STEP[last]);
            Checks.due("20: no monster before", before, 0);
            played("back and again", x, join(keys, 3 - last, last), strength, 0);
            // The dungeon's own monsters stay: another run meets it again.
            played("another run", x, keys, strength, 0);
            Checks.due("20: the monster at first", x.monster(0, 0, room), strength);
        }
    }

    private static void treasures() {
        for (int seed = 0; seed < 12; seed++) {
            RuleCrypts x = Crypts.grown(seed, 3, 0, 1, 9, 10, 0);
            for (int room = 1; room < 16; room++) {
                List<Integer> keys = wayTo(x, 0, 0, room);
                int due = 0;
                int here = 0;
                for (int key : keys) {
                    here += STEP[key];
                    due += x.hasTreasure(0, 0, here) ? 5 : 0;
                }
                int last = keys.get(keys.size() - 1);
                int back = keys.size() == 1 && x.hasTreasure(0, 0, 0) ? 5 : 0;
                if (room % 3 == 0) {
                    played("treasures", x, keys, due, 0);
                    played("treasures once", x, join(keys, 3 - last, last), due + back, 0);
                    Checks.due("21: the treasure at first", x.hasTreasure(0, 0, here), due > 0
                            && x.hasTreasure(0, 0, room));
                }
            }
        }
    }

    private static void treasureInTheEntry() {
        boolean seen = false;
        for (int seed = 0; seed < 20; seed++) {
            RuleCrypts x = Crypts.grown(seed, 3, 0, 1, 20, 10, 0);
            int beside = x.hasDoor(0, 0, 0, 2) ? 1 : 4;
            int key = beside == 1 ? 2 : 3;
            int score = x.hasTreasure(0, 0, beside) ? 5 : 0;
            int more = x.hasTreasure(0, 0, 0) ? 5 : 0;
            seen |= more > 0;
            played("resting in the entry", x, List.of(REST), -1, 0);
            played("out of the entry", x, List.of(key), score, 0);
            played("back in the entry", x, List.of(key, 3 - key), score + more, 0);
            played("back twice", x, List.of(key, 3 - key, key, 3 - key), score + more, 0);
        }
        Checks.due("28: an entry with a treasure was seen", seen, true);
        treasureInTheEntryBelow();
    }

    private static void treasureInTheEntryBelow() {
        boolean seen = false;
        for (int seed = 0; seed < 20; seed++) {
            RuleCrypts x = Crypts.grown(seed, 3, 0, 1, 20, 10, 0);
            List<Integer> keys = wayTo(x, 0, 0, x.stairs(0, 0));
            int score = 0;
            int here = 0;
            for (int key : keys) {
                here += STEP[key];
                score += x.hasTreasure(0, 0, here) ? 5 : 0;
            }
            boolean below = x.hasTreasure(0, 1, here);
            seen |= below;
            played("down: nothing is done", x, join(keys, DOWN), score, 0);
            for (int key = 0; key < 4; key++) {
                if (x.hasDoor(0, 1, here, key)) {
                    int beside = x.hasTreasure(0, 1, here + STEP[key]) ? 5 : 0;
                    played("back in the entry below", x, join(keys, DOWN, key, 3 - key),
                            score + beside + (below ? 5 : 0), 0);
                }
            }
        }
        Checks.due("28: an entry below with a treasure was seen", seen, true);
    }

    private static void deadMenTakeNoTreasure() {
        boolean seen = false;
        for (int seed = 0; seed < 40; seed++) {
            RuleCrypts x = Crypts.grown(seed, 3, 20, 9, 20, 1, 0);
            int room = x.hasDoor(0, 0, 0, 2) ? 1 : 4;
            int strength = x.monster(0, 0, room);
            if (strength > 0 && x.hasTreasure(0, 0, room)) {
                seen = true;
                played("dead beside a treasure", x, List.of(room == 1 ? 2 : 3), strength, 1);
                RuleCrypts alive = Crypts.grown(seed, 3, 20, 9, 20, 50, 0);
                played("alive beside it", alive, List.of(room == 1 ? 2 : 3), strength + 5, 0);
            }
        }
        Checks.due("28: a monster with a treasure was seen", seen, true);
    }

    /** Healing fills up to the health of the rules: it tells whether a fight later is survived. */
    private static void resting() {
        RuleCrypts x = Crypts.grown(1, 3, 0, 1, 0, 10, 9);
        played("rests", x, List.of(REST, REST, REST), -3, 0);
        for (int i = 0; i < 60; i++) {
            x.key(REST);
        }
        int run = x.handIn(0, -60);
        Checks.due("10: 60 rests", x.judge(run), -1);
        for (int seed = 0; seed < 12; seed++) {
            RuleCrypts fight = Crypts.grown(seed, 3, 20, 9, 0, 50, 0);
            int room = firstMonster(fight);
            int strength = fight.monster(0, 0, room);
            List<Integer> keys = new ArrayList<>(List.of(REST, REST));
            keys.addAll(wayTo(fight, 0, 0, room));
            RuleCrypts most = Crypts.grown(seed, 3, 20, 9, 0, strength, 9);
            played("not above the health of the rules", most, keys, strength - 2, 1);
        }
        healing(0);
        healing(1);
        healing(9);
    }

    /** Two fights in the first rooms, with rests between: how many it takes to live tells the healing. */
    private static void healing(int healing) {
        for (int seed = 0; seed < 60; seed++) {
            RuleCrypts x = Crypts.grown(seed, 3, 20, 9, 0, 50, 0);
            int key = x.hasDoor(0, 0, 0, 2) ? 2 : 3;
            int first = x.monster(0, 0, STEP[key]);
            int next = STEP[key];
            int onward = x.hasDoor(0, 0, next, 3) ? 3 : x.hasDoor(0, 0, next, 2) ? 2 : 4;
            if (onward == 4 || first == 0 || x.monster(0, 0, next + STEP[onward]) == 0) {
                continue;
            }
            int second = x.monster(0, 0, next + STEP[onward]);
            int health = Math.max(first, second) + 1;
            RuleCrypts tight = Crypts.grown(seed, 3, 20, 9, 0, health, healing);
            for (int rests = 0; rests < 6; rests++) {
                List<Integer> keys = new ArrayList<>(List.of(key));
                for (int i = 0; i < rests; i++) {
                    keys.add(REST);
                }
                keys.add(onward);
                boolean lives = Math.min(health, health - first + rests * healing) > second;
                played("healing " + healing, tight, keys, first + second - rests, lives ? 0 : 1);
            }
        }
    }

    private static void verdicts() {
        RuleCrypts x = new RuleCrypts();
        x.open(12, 0);
        int right = handIn(x, 0, -2, List.of(REST, REST));
        int more = handIn(x, 0, -1, List.of(REST, REST));
        int less = handIn(x, 0, -3, List.of(REST, REST));
        int never = handIn(x, 0, -2, List.of(REST, REST, DOWN));
        for (int run = 0; run < 4; run++) {
            Checks.due("27: not judged", x.verdict(run), -3);
            Checks.due("28: before it is judged", x.scoreOf(run), -2);
            Checks.due("29: before it is judged", x.endOf(run), 0);
        }
        Checks.due("10: right", x.judge(right), -1);
        Checks.due("10: less than claimed", x.judge(more), -2);
        Checks.due("10: more than claimed", x.judge(less), -2);
        Checks.due("27: not judged", x.verdict(never), -3);
        Checks.due("10: a turn that cannot be", x.judge(never), 2);
        Checks.due("10: judged again", x.judge(never), 2);
        Checks.due("27: right", x.verdict(right), -1);
        Checks.due("27: less than claimed", x.verdict(more), -2);
        Checks.due("27: more than claimed", x.verdict(less), -2);
        Checks.due("27: a turn that cannot be", x.verdict(never), 2);
        Checks.due("30: right", x.rank(right), 0);
        for (int run = 1; run < 4; run++) {
            Checks.due("30: not ranked", x.rank(run), -1);
        }
        Checks.due("31: one alone", x.ranked(0, 0), right);
        Checks.due("31: one alone", x.ranked(0, 1), -1);
    }

    private static void ranks() {
        RuleCrypts x = new RuleCrypts();
        x.open(1, 0);
        int key = x.handIn(0, 0) == 0 && x.hasDoor(0, 0, 0, 2) ? 2 : 3;
        Checks.due("20: an empty room beside the entry", x.monster(0, 0, STEP[key]), 0);
        Checks.due("21: an empty room beside the entry", x.hasTreasure(0, 0, STEP[key]), false);
        int rests2 = handIn(x, 1, -2, List.of(REST, REST));
        int rest1 = handIn(x, 2, -1, List.of(REST));
        int rest1Longer = handIn(x, 3, -1, List.of(REST, key));
        int rest1Later = handIn(x, 4, -1, List.of(REST));
        int[] due = {0, rest1, rest1Later, rest1Longer, rests2};
        for (int run = 4; run >= 0; run--) {
            Checks.due("10: judge", x.judge(run), -1);
        }
        for (int rank = 0; rank < 5; rank++) {
            Checks.due("31: ranked " + rank, x.ranked(0, rank), due[rank]);
            Checks.due("30: rank of " + due[rank], x.rank(due[rank]), rank);
        }
        Checks.due("31: not so many", x.ranked(0, 5), -1);
        Checks.due("32: the first one's glory", x.glory(0), 0);
        Checks.due("32: the others' glory", x.glory(1) + x.glory(2) + x.glory(3) + x.glory(4), 0);
    }

    private static void ranksByDungeon() {
        RuleCrypts x = new RuleCrypts();
        x.open(1, 0);
        handIn(x, 0, -1, List.of(REST));
        x.open(2, 0);
        handIn(x, 1, -2, List.of(REST, REST));
        handIn(x, 2, -1, List.of(REST));
        x.open(1, 0);
        handIn(x, 3, -3, List.of(REST, REST, REST));
        for (int run = 0; run < 4; run++) {
            x.judge(run);
        }
        int[] dungeons = {0, 1, 1, 0};
        int[] ranks = {0, 1, 0, 1};
        for (int run = 0; run < 4; run++) {
            Checks.due("26: dungeonOf", x.dungeonOf(run), dungeons[run]);
            Checks.due("30: rank", x.rank(run), ranks[run]);
            Checks.due("31: ranked", x.ranked(dungeons[run], ranks[run]), run);
        }
        Checks.due("31: not so many", x.ranked(1, 2), -1);
        Checks.throwsDue("31: dungeon 2 of two", INDEX, () -> x.ranked(2, 0));
    }

    private static void glory() {
        RuleCrypts x = new RuleCrypts();
        for (int seed = 1; seed <= 3; seed++) {
            x.open(seed, 0);
            for (int i = 0; i < seed; i++) {
                x.key(REST);
            }
            x.handIn(5, -seed);
            Checks.due("32: not judged", x.glory(5), seed == 1 ? 0 : -(seed - 1) * seed / 2);
            x.judge(seed - 1);
            Checks.due("32: the sum", x.glory(5), -seed * (seed + 1) / 2);
        }
        x.handIn(6, 0);
        x.judge(3);
        Checks.due("32: another one is first in the dungeon 2", x.glory(5), -3);
        Checks.due("32: with 0", x.glory(6), 0);
        Checks.due("32: none", x.glory(7), 0);
        x.handIn(7, 1);
        x.judge(4);
        Checks.due("32: a false claim is no glory", x.glory(7), 0);
    }

    private static void mendedPack() {
        RuleCrypts x = new RuleCrypts();
        x.pack();
        x.change(0, 1, true, 0);
        x.open(3, 1);
        handIn(x, 0, -1, List.of(REST));
        x.judge(0);
        x.mend(0);
        handIn(x, 0, -2, List.of(REST, REST));
        x.judge(1);
        Checks.due("26: the run keeps its dungeon", x.dungeonOf(0), 0);
        Checks.due("26: the later one has another", x.dungeonOf(1), 1);
        Checks.due("30: ranked in its dungeon alone", x.rank(0), 0);
        Checks.due("30: ranked in its dungeon alone", x.rank(1), 0);
        Checks.due("32: first in both", x.glory(0), -3);
        for (int room = 0; room < 16; room++) {
            Checks.due("20: the dungeon stays without monsters", x.monster(0, 1, room), 0);
        }
        x.setNeeds(0, 0);
        Checks.due("10: judged again in its dungeon", x.judge(0), -1);
    }
}
