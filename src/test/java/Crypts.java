import java.util.ArrayList;
import java.util.List;
import java.util.function.Consumer;
import java.util.function.Supplier;

/** Objects that tests begin with, rows of keys written as texts, and rooms read as texts. */
final class Crypts {
    static final Class<IndexOutOfBoundsException> INDEX = IndexOutOfBoundsException.class;
    static final Class<IllegalArgumentException> ARGUMENT = IllegalArgumentException.class;
    static final Class<IllegalStateException> STATE = IllegalStateException.class;

    static final int[] FIRST = {3, 4, 3, 3, 10, 1};
    static final int[] LEAST = {0, 0, 1, 0, 1, 0};
    static final int[] MOST = {20, 20, 9, 20, 50, 9};

    /** Up, left, right, down (a row), by the stairs, a rest: the keys 0 to 5. */
    private static final String KEYS = "ulrds.";

    private Crypts() {
    }

    /** Numbers that none of so many has: just beyond both ends, and some that a narrower type would wrap. */
    static int[] beyond(int count) {
        return new int[] {-1, count, count + 1, 256, 65536, 1 << 20, Integer.MIN_VALUE, Integer.MAX_VALUE};
    }

    /** Sets with a bit that none of so many packs has, each with and without those that there are. */
    static int[] otherBits(int count) {
        int all = (1 << count) - 1;
        return new int[] {1 << count, 1 << count | all, 1 << 16, 1 << 30, 1 << 30 | all, Integer.MIN_VALUE,
            Integer.MIN_VALUE | all, Integer.MAX_VALUE, -1};
    }

    static RuleCrypts withPacks(int count) {
        RuleCrypts x = new RuleCrypts();
        for (int i = 0; i < count; i++) {
            x.pack();
        }
        return x;
    }

    /** Each of so many packs needs the next one, so that they stand from the last to the first. */
    static RuleCrypts chain(int count) {
        RuleCrypts x = withPacks(count);
        for (int i = 0; i + 1 < count; i++) {
            x.setNeeds(i, 1 << i + 1);
        }
        return x;
    }

    /** A day with the seed and the numbers of these rules, made by the packs 0 and 1. */
    static RuleCrypts opened(int seed, int... rules) {
        RuleCrypts x = withPacks(2);
        for (int rule = 0; rule < rules.length; rule++) {
            x.change(rule / 3, rule, true, rules[rule]);
        }
        x.open(seed, 3);
        return x;
    }

    /** The same, and the dungeon is had by an empty run of the player 7, so that it can be looked at. */
    static RuleCrypts grown(int seed, int... rules) {
        RuleCrypts x = opened(seed, rules);
        x.handIn(7, 0);
        return x;
    }

    static void press(RuleCrypts x, String keys) {
        for (int i = 0; i < keys.length(); i++) {
            x.key(KEYS.indexOf(keys.charAt(i)));
        }
    }

    static int handIn(RuleCrypts x, int player, int claim, String keys) {
        press(x, keys);
        return x.handIn(player, claim);
    }

    /** Hands a run in with the claim that is right, and judges it. */
    static int judged(RuleCrypts x, int player, int claim, String keys) {
        int run = handIn(x, player, claim, keys);
        Checks.due(keys + " is right", x.judge(run), -1);
        return run;
    }

    /** What a row of keys comes to; its claim is the score that is due. */
    static void plays(RuleCrypts x, String keys, int score, int end, int verdict) {
        int run = handIn(x, 0, score, keys);
        Checks.due("scoreOf \"" + keys + "\"", x.scoreOf(run), score);
        Checks.due("endOf \"" + keys + "\"", x.endOf(run), end);
        Checks.due("judge \"" + keys + "\"", x.judge(run), verdict);
        Checks.due("verdict \"" + keys + "\"", x.verdict(run), verdict);
    }

    /** The doors of the sixteen rooms, a hexadecimal digit each: 1 up, 2 left, 4 right, 8 down. */
    static String doors(RuleCrypts x, int dungeon, int floor) {
        StringBuilder text = new StringBuilder();
        for (int room = 0; room < 16; room++) {
            int bits = 0;
            for (int direction = 0; direction < 4; direction++) {
                bits |= x.hasDoor(dungeon, floor, room, direction) ? 1 << direction : 0;
            }
            text.append(Integer.toHexString(bits));
        }
        return text.toString();
    }

    static String monsters(RuleCrypts x, int dungeon, int floor) {
        StringBuilder text = new StringBuilder();
        for (int room = 0; room < 16; room++) {
            text.append(x.monster(dungeon, floor, room));
        }
        return text.toString();
    }

    static String treasures(RuleCrypts x, int dungeon, int floor) {
        StringBuilder text = new StringBuilder();
        for (int room = 0; room < 16; room++) {
            text.append(x.hasTreasure(dungeon, floor, room) ? 't' : '.');
        }
        return text.toString();
    }

    /** How far the sixteen rooms are, a hexadecimal digit each. */
    static String ways(RuleCrypts x, int dungeon, int floor) {
        StringBuilder text = new StringBuilder();
        for (int room = 0; room < 16; room++) {
            text.append(Integer.toHexString(x.way(dungeon, floor, room)));
        }
        return text.toString();
    }

    /** The call is refused by just this exception, and behind it stands what stands without it. */
    static void refused(String call, Class<? extends RuntimeException> want, Supplier<RuleCrypts> made,
            Consumer<RuleCrypts> body) {
        RuleCrypts x = made.get();
        Checks.throwsDue(call, want, () -> body.accept(x));
        List<String> got = reading(x);
        List<String> due = reading(made.get());
        Checks.due(call + " changes nothing", got, due);
    }

    /** All that an object tells; at the end also what only calls tell that change it. */
    static List<String> reading(RuleCrypts x) {
        List<String> all = new ArrayList<>();
        readRuns(all, x);
        read(all, "draft", () -> x.key(5));
        read(all, "draft", () -> x.handIn(0, 0));
        int last = x.runs() - 1;
        read(all, "its keys' score", () -> x.scoreOf(last));
        read(all, "its keys' end", () -> x.endOf(last));
        read(all, "its keys' verdict", () -> x.judge(last));
        read(all, "left of the draft", x::wipe);
        readPacks(all, x);
        read(all, "next day", () -> x.open(0, 0));
        read(all, "next pack", x::pack);
        return all;
    }

    private static void readRuns(List<String> all, RuleCrypts x) {
        read(all, "packs", x::packs);
        read(all, "today", x::today);
        read(all, "dungeons", x::dungeons);
        read(all, "dungeonToday", x::dungeonToday);
        read(all, "runs", x::runs);
        for (int i = 0; i < x.dungeons(); i++) {
            int dungeon = i;
            read(all, "stairs", () -> x.stairs(dungeon, 2));
            read(all, "ranked", () -> x.ranked(dungeon, 0));
        }
        for (int i = 0; i < x.runs(); i++) {
            int run = i;
            read(all, "dungeonOf", () -> x.dungeonOf(run));
            read(all, "verdict", () -> x.verdict(run));
            read(all, "scoreOf", () -> x.scoreOf(run));
            read(all, "rank", () -> x.rank(run));
        }
        for (int i = 0; i < 8; i++) {
            int player = i;
            read(all, "glory", () -> x.glory(player));
        }
    }

    private static void readPacks(List<String> all, RuleCrypts x) {
        for (int i = 0; i < x.packs(); i++) {
            int pack = i;
            read(all, "needs", () -> x.setNeeds(pack, 0));
        }
        for (int i = 0; i < x.packs(); i++) {
            int pack = i;
            for (int left = x.changes(pack); left >= 0; left--) {
                for (int j = 0; j < 6; j++) {
                    int rule = j;
                    read(all, "rule " + rule + " of pack " + pack, () -> x.ruleOf(1 << pack, rule));
                }
                read(all, "mend", () -> x.mend(pack));
            }
        }
    }

    private static void read(List<String> all, String name, Supplier<Integer> question) {
        String answer;
        try {
            answer = question.get().toString();
        } catch (RuntimeException e) {
            answer = e.getClass().getName();
        }
        all.add(name + ": " + answer);
    }
}
