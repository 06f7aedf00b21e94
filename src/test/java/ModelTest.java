import java.util.Arrays;
import java.util.List;

/**
 * All promises at once: rows of 512 calls on new objects, drawn from fixed seeds, each answer and each
 * exception compared with the model's. Every second call or so is a question, so that a call that throws
 * and yet changes something is found.
 */
public final class ModelTest {
    private static final int ROWS = 1500;
    private static final int CALLS = 512;
    private static final int WRONG_ONE_IN = 25;
    private static final int OFTEN = 50;

    /** Right runs by their ends, then limits that were reached, then ranks behind the first one. */
    private static final int[] SEEN = new int[9];

    /** Rows of five kinds: all of it, many packs, many days and dungeons, many runs, long runs. */
    private static final int[][] KINDS = {
        // pack, change, mend, needs, open, key, wipe, handIn, judge
        {4, 10, 4, 4, 4, 60, 1, 12, 14},
        {20, 40, 8, 30, 8, 70, 0, 1, 4},
        {2, 10, 4, 0, 26, 4, 1, 45, 4},
        {1, 2, 1, 1, 2, 60, 1, 30, 30},
        {0, 1, 1, 0, 1, 200, 0, 5, 8}};

    private interface Call {
        long answer();
    }

    private final RuleCrypts x = new RuleCrypts();
    private final Model m = new Model();
    private final int row;
    private long state;
    private int[] weights;

    private ModelTest(int row) {
        this.row = row;
        state = row * 7919L + 17;
    }

    public static void main(String[] args) {
        for (int row = 0; row < ROWS; row++) {
            new ModelTest(row).run();
        }
        for (int i = 0; i < SEEN.length; i++) {
            Checks.due("seen often: " + i + " in " + Arrays.toString(SEEN), SEEN[i] >= OFTEN, true);
        }
        Checks.end();
    }

    private void run() {
        weights = KINDS[row % KINDS.length];
        int prepared = row % KINDS.length == 4 ? prepare() : 0;
        for (int call = prepared; call < CALLS; call++) {
            if (drawn(2) == 0) {
                change(call);
            } else {
                ask(call);
            }
        }
        tally();
    }

    /** A day of its own for long runs, every other one with monsters that kill; answers how many calls it took. */
    private int prepare() {
        same(0, "pack", x::pack, m::pack);
        int[][] changes = {{1, 20}, {2, 1 + drawn(9)}, {4, 1 + drawn(30)}, {0, drawn(21)}};
        int count = drawn(2) == 0 ? 4 : 0;
        for (int i = 0; i < count; i++) {
            int[] change = changes[i];
            same(1 + i, "change", () -> x.change(0, change[0], true, change[1]),
                    () -> m.change(0, change[0], true, change[1]));
        }
        int seed = drawn(65536);
        same(1 + count, "open", () -> x.open(seed, 1), () -> m.open(seed, 1));
        return 2 + count;
    }

    /** Counts what the row came to: rows that never reach an end or a limit would test little. */
    private void tally() {
        for (int run = 0; run < m.runs(); run++) {
            SEEN[m.endOf(run)] += m.verdict(run) == -1 ? 1 : 0;
            SEEN[8] += m.rank(run) > 0 ? 1 : 0;
        }
        int[] counts = {m.packs(), m.days.size(), m.draft.size(), m.dungeons(), m.runs()};
        int[] limits = {10, 30, 60, 20, 60};
        for (int i = 0; i < limits.length; i++) {
            SEEN[3 + i] += counts[i] == limits[i] ? 1 : 0;
        }
    }

    private int drawn(int below) {
        state = state * 6364136223846793005L + 1442695040888963407L;
        return (int) ((state >>> 33) % below);
    }

    /** A number from 0 on below the count, now and then one that is not. */
    private int number(int count) {
        if (count == 0 || drawn(WRONG_ONE_IN) == 0) {
            int[] wrong = {count, count + 1, -1, Integer.MAX_VALUE, Integer.MIN_VALUE};
            return wrong[drawn(wrong.length)];
        }
        return drawn(count);
    }

    private int set() {
        int count = m.packs();
        if (drawn(WRONG_ONE_IN) == 0) {
            int[] wrong = {1 << count, -1, Integer.MIN_VALUE, (1 << count) + 1, Integer.MAX_VALUE};
            return wrong[drawn(wrong.length)];
        }
        return drawn(1 << count) & (drawn(3) == 0 ? -1 : drawn(1 << count));
    }

    private void same(int call, String name, Call got, Call want) {
        String mine = answer(got);
        String due = answer(want);
        Checks.due("row " + row + ", call " + call + ", " + name + ": " + mine + ", due " + due,
                mine.equals(due), true);
    }

    private static String answer(Call call) {
        try {
            return Long.toString(call.answer());
        } catch (RuntimeException e) {
            return e.getClass().getName();
        }
    }

    private void change(int call) {
        int sum = 0;
        for (int weight : weights) {
            sum += weight;
        }
        int which = 0;
        int left = drawn(sum);
        while (left >= weights[which]) {
            left -= weights[which];
            which++;
        }
        if (which < 4) {
            changePacks(call, which);
        } else {
            changeRuns(call, which);
        }
    }

    private void changePacks(int call, int which) {
        int pack = number(m.packs());
        if (which == 0) {
            same(call, "pack", x::pack, m::pack);
        } else if (which == 1) {
            int rule = number(6);
            boolean sets = drawn(2) == 0;
            int number = drawn(4) == 0 ? number(60) : drawn(43) - 21;
            same(call, "change", () -> x.change(pack, rule, sets, number),
                    () -> m.change(pack, rule, sets, number));
        } else if (which == 2) {
            same(call, "mend", () -> x.mend(pack), () -> m.mend(pack));
        } else {
            // Few bits: a circle of all packs would leave little that is possible.
            int needs = drawn(3) == 0 ? set() : set() & set() & set();
            same(call, "setNeeds", () -> x.setNeeds(pack, needs), () -> m.setNeeds(pack, needs));
        }
    }

    private void changeRuns(int call, int which) {
        if (which == 4) {
            // Few seeds in every third row, so that days come back to dungeons that were had.
            int seed = row % 3 == 0 ? drawn(12) : number(65536);
            int set = drawn(3) == 0 ? 0 : set();
            same(call, "open", () -> x.open(seed, set), () -> m.open(seed, set));
        } else if (which == 5 && row % KINDS.length > 2 && isSpent() && drawn(4) != 0) {
            changeRuns(call, 7);
        } else if (which == 5) {
            int key = goodKey();
            same(call, "key", () -> x.key(key), () -> m.key(key));
        } else if (which == 6) {
            same(call, "wipe", x::wipe, m::wipe);
        } else if (which == 7) {
            int player = number(8);
            int score = goodClaim();
            same(call, "handIn", () -> x.handIn(player, score), () -> m.handIn(player, score));
        } else {
            int run = number(m.runs());
            same(call, "judge", () -> x.judge(run), () -> m.judge(run));
        }
    }

    private ModelDungeon likelyDungeon() {
        int today = m.dungeonToday();
        if (today >= 0) {
            return m.dungeons.get(today);
        }
        int[] identity = m.identityToday();
        return identity == null ? null : new ModelDungeon(identity);
    }

    /** Whether no further key of the draft can be. */
    private boolean isSpent() {
        ModelDungeon dungeon = likelyDungeon();
        if (dungeon == null) {
            return false;
        }
        Model.Played played = Model.play(dungeon, m.draft);
        return played.end != 0 || played.turns < m.draft.size();
    }

    /** Mostly a key that can be, so that runs go far. */
    private int goodKey() {
        ModelDungeon dungeon = likelyDungeon();
        if (dungeon == null || drawn(40) == 0) {
            return number(6);
        }
        Model.Played played = Model.play(dungeon, m.draft);
        ModelFloor floor = dungeon.floors.get(played.floor);
        if (played.room == floor.stairs && drawn(4) != 0) {
            return 4;
        }
        int start = drawn(4);
        boolean strays = drawn(6) == 0;
        for (int i = start; i < start + 4; i++) {
            int key = i % 4;
            int next = ModelFloor.beside(played.room, key);
            if (floor.door(played.room, key)
                    && (strays || floor.far[next][floor.stairs] < floor.far[played.room][floor.stairs])) {
                return key;
            }
        }
        return 5;
    }

    private int goodClaim() {
        ModelDungeon dungeon = likelyDungeon();
        if (dungeon != null && drawn(4) != 0) {
            return Model.play(dungeon, m.draft).score;
        }
        return drawn(5) == 0 ? number(1101) - 100 : drawn(2) == 0 ? -m.draft.size() : 0;
    }

    private void ask(int call) {
        int which = drawn(20);
        if (which < 8) {
            askPacks(call, which);
        } else if (which < 13) {
            askDungeons(call);
        } else {
            askRuns(call, which);
        }
    }

    private void askPacks(int call, int which) {
        int set = set();
        int pack = number(m.packs());
        int place = number(m.packs() + 1);
        int rule = number(6);
        List<Runnable> questions = List.of(
                () -> same(call, "packs", x::packs, m::packs),
                () -> same(call, "changes", () -> x.changes(pack), () -> m.changes(pack)),
                () -> same(call, "isPossible", () -> x.isPossible(set) ? 1 : 0, () -> m.isPossible(set) ? 1 : 0),
                () -> same(call, "orderAt", () -> x.orderAt(set, place), () -> m.orderAt(set, place)),
                () -> same(call, "ruleOf", () -> x.ruleOf(set, rule), () -> m.ruleOf(set, rule)),
                () -> same(call, "today", x::today, m::today),
                () -> same(call, "dungeons", x::dungeons, m::dungeons),
                () -> same(call, "dungeonToday", x::dungeonToday, m::dungeonToday));
        questions.get(which).run();
    }

    private void askDungeons(int call) {
        int dungeon = number(m.dungeons());
        int floor = number(3);
        int room = number(16);
        int direction = number(4);
        List<Runnable> questions = List.of(
                () -> same(call, "hasDoor", () -> x.hasDoor(dungeon, floor, room, direction) ? 1 : 0,
                        () -> m.hasDoor(dungeon, floor, room, direction) ? 1 : 0),
                () -> same(call, "monster", () -> x.monster(dungeon, floor, room),
                        () -> m.monster(dungeon, floor, room)),
                () -> same(call, "hasTreasure", () -> x.hasTreasure(dungeon, floor, room) ? 1 : 0,
                        () -> m.hasTreasure(dungeon, floor, room) ? 1 : 0),
                () -> same(call, "stairs", () -> x.stairs(dungeon, floor), () -> m.stairs(dungeon, floor)),
                () -> same(call, "way", () -> x.way(dungeon, floor, room), () -> m.way(dungeon, floor, room)),
                () -> same(call, "wayByDoors", () -> x.wayByDoors(dungeon, floor, room),
                        () -> m.wayByDoors(dungeon, floor, room)));
        questions.get(drawn(questions.size())).run();
    }

    private void askRuns(int call, int which) {
        int run = number(m.runs());
        int dungeon = number(m.dungeons());
        int rank = number(5);
        int player = number(8);
        List<Runnable> questions = List.of(
                () -> same(call, "runs", x::runs, m::runs),
                () -> same(call, "dungeonOf", () -> x.dungeonOf(run), () -> m.dungeonOf(run)),
                () -> same(call, "verdict", () -> x.verdict(run), () -> m.verdict(run)),
                () -> same(call, "scoreOf", () -> x.scoreOf(run), () -> m.scoreOf(run)),
                () -> same(call, "endOf", () -> x.endOf(run), () -> m.endOf(run)),
                () -> same(call, "rank", () -> x.rank(run), () -> m.rank(run)),
                () -> same(call, "ranked", () -> x.ranked(dungeon, rank), () -> m.ranked(dungeon, rank)),
                () -> same(call, "glory", () -> x.glory(player), () -> m.glory(player)));
        questions.get(which == 13 ? 7 : drawn(questions.size())).run();
    }
}
