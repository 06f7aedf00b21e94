/** Boundaries of playing and judging: the promises 10, 27, 28 and 29. Rows of keys are written as in Crypts. */
final class PlayBoundaries {
    private static final int GOES_ON = 0;
    private static final int DEAD = 1;
    private static final int OUT = 2;
    private static final int ALL_CAN_BE = -1;

    /** The way out of the seed 0 without loops and monsters: to 14, to 0, to 15. */
    private static final String TO_STAIRS = "rrrddld";
    private static final String WAY_OUT = TO_STAIRS + "s" + "luluu" + "s" + "drrdrd" + "s";

    private PlayBoundaries() {
    }

    static void addTo(Boundaries all) {
        addFights(all);
        addTreasures(all);
        addStairs(all);
        addRests(all);
        addTurns(all);
        addVerdicts(all);
    }

    private static void addFights(Boundaries all) {
        all.add(28, "The player is in the entry of the floor 0, with the health that the rules tell, and the score 0.",
                PlayBoundaries::start);
        all.add(28, "whoever comes into a room with a monster fights: the health becomes less by its strength, the"
                + " score more by it, and the monster is gone", PlayBoundaries::goneOnce);
        all.add(29, "with a health of 0 or less the player is dead", PlayBoundaries::healthOfZero);
        all.add(29, "with a health of 0 or less the player is dead", PlayBoundaries::leastAndMostHealth);
    }

    private static void addTreasures(Boundaries all) {
        all.add(28, "otherwise a treasure there, also in an entry to which one comes back, is taken, once: 5 more of"
                + " score", PlayBoundaries::notWhenDead);
        all.add(28, "otherwise a treasure there, also in an entry to which one comes back, is taken, once: 5 more of"
                + " score", PlayBoundaries::takenOnce);
        all.add(28, "otherwise a treasure there, also in an entry to which one comes back, is taken, once: 5 more of"
                + " score", PlayBoundaries::entryOnlyOnComingBack);
    }

    private static void addStairs(Boundaries all) {
        all.add(10, "Going down is possible at the stairs", PlayBoundaries::onlyAtTheStairs);
        all.add(28, "the player comes to the entry of the next floor, where nothing is done",
                PlayBoundaries::nothingIsDone);
        all.add(28, "the player comes to the entry of the next floor, where nothing is done",
                PlayBoundaries::floorsOfTheirOwn);
        all.add(29, "on the floor 2 the player is out: 20 more of score", PlayBoundaries::outOfTheLastFloor);
    }

    private static void addRests(Boundaries all) {
        all.add(28, "Resting adds the healing to the health, up to the health that the rules tell, and makes the score"
                + " 1 less.", PlayBoundaries::upToTheHealth);
        all.add(28, "Resting adds the healing to the health, up to the health that the rules tell, and makes the score"
                + " 1 less.", PlayBoundaries::leastAndMostHealing);
        all.add(28, "Resting adds the healing to the health, up to the health that the rules tell, and makes the score"
                + " 1 less.", PlayBoundaries::scoreBelowZero);
    }

    private static void addTurns(Boundaries all) {
        all.add(10, "Keys are 0 to 5: 0 to 3 go in that direction, 4 goes down, 5 rests.", PlayBoundaries::sixKeys);
        all.add(10, "Going needs a door", PlayBoundaries::walls);
        all.add(10, "A turn that is not possible, or comes when the player is dead or out, cannot be.",
                PlayBoundaries::whenDead);
        all.add(10, "A turn that is not possible, or comes when the player is dead or out, cannot be.",
                PlayBoundaries::whenOut);
        all.add(28, "Returns the score that a run has by its turns, as far as they can be.",
                PlayBoundaries::scoreAsFar);
        all.add(29, "Returns how a run ends by its turns, as far as they can be.", PlayBoundaries::endAsFar);
        all.add(29, "Returns 0 it goes on, 1 dead, 2 out.", PlayBoundaries::threeEnds);
    }

    private static void addVerdicts(Boundaries all) {
        all.add(10, "the verdict is the place of the first turn that cannot be, from 0 on",
                PlayBoundaries::firstAndLastPlace);
        all.add(10, "-1 if all can be, and the score is the one that is claimed", PlayBoundaries::noKeysAndSixty);
        all.add(10, "-2 if all can be, but the score is another one", PlayBoundaries::oneMoreAndOneLess);
        all.add(27, "A run without a verdict is not judged.", PlayBoundaries::notJudged);
        all.add(27, "Returns the verdict; -3 if it is not judged.", PlayBoundaries::minusThree);
    }

    private static RuleCrypts bare() {
        return Crypts.grown(0, 0, 0, 1, 0, 1, 0);
    }

    /** The seed 4: the room 1, right of the entry, has a monster of 6 and a treasure; the entry has one too. */
    private static RuleCrypts sixBesideTheEntry(int health) {
        return Crypts.grown(4, 0, 20, 9, 20, health, 0);
    }

    /** The seed 5: downwards from the entry there are monsters of 4 and 8, right of these 9, below that 2. */
    private static RuleCrypts fourAndEight(int health, int healing) {
        return Crypts.grown(5, 0, 20, 9, 0, health, healing);
    }

    private static void start() {
        Crypts.plays(sixBesideTheEntry(1), "", 0, GOES_ON, ALL_CAN_BE);
        Crypts.plays(sixBesideTheEntry(1), ".", -1, GOES_ON, ALL_CAN_BE);
        Crypts.plays(sixBesideTheEntry(6), "r", 6, DEAD, ALL_CAN_BE);
        Crypts.plays(sixBesideTheEntry(7), "r", 11, GOES_ON, ALL_CAN_BE);
        Crypts.plays(bare(), "u", 0, GOES_ON, 0);
        Crypts.plays(bare(), "l", 0, GOES_ON, 0);
    }

    /** With a health of 1 left, to meet the monster again would be to die. */
    private static void goneOnce() {
        RuleCrypts x = sixBesideTheEntry(7);
        Crypts.plays(x, "rlr", 16, GOES_ON, ALL_CAN_BE);
        Crypts.plays(x, "rlrlr", 16, GOES_ON, ALL_CAN_BE);
        Crypts.plays(x, "r", 11, GOES_ON, ALL_CAN_BE);
        Checks.due("the dungeon has it still", x.monster(0, 0, 1), 6);
    }

    private static void healthOfZero() {
        Crypts.plays(sixBesideTheEntry(5), "r", 6, DEAD, ALL_CAN_BE);
        Crypts.plays(sixBesideTheEntry(6), "r", 6, DEAD, ALL_CAN_BE);
        Crypts.plays(sixBesideTheEntry(7), "r", 11, GOES_ON, ALL_CAN_BE);
        Crypts.plays(fourAndEight(12, 0), "dd", 12, DEAD, ALL_CAN_BE);
        Crypts.plays(fourAndEight(13, 0), "dd", 12, GOES_ON, ALL_CAN_BE);
    }

    /** With 1 the weakest monster kills; with 50 no two in a row do, that have 9 at most. */
    private static void leastAndMostHealth() {
        RuleCrypts least = Crypts.grown(0, 0, 20, 1, 0, 1, 0);
        Checks.due("a monster of 1 in the room 4", least.monster(0, 0, 4), 1);
        Crypts.plays(least, "d", 1, DEAD, ALL_CAN_BE);
        RuleCrypts two = Crypts.grown(0, 0, 20, 1, 0, 2, 0);
        Crypts.plays(two, "d", 1, GOES_ON, ALL_CAN_BE);
        Crypts.plays(fourAndEight(50, 0), "ddrd", 23, GOES_ON, ALL_CAN_BE);
        Crypts.plays(fourAndEight(23, 0), "ddrd", 23, DEAD, ALL_CAN_BE);
        Crypts.plays(fourAndEight(24, 0), "ddrd", 23, GOES_ON, ALL_CAN_BE);
    }

    private static void notWhenDead() {
        Checks.due("a treasure beside the monster", sixBesideTheEntry(6).hasTreasure(0, 0, 1), true);
        Crypts.plays(sixBesideTheEntry(6), "r", 6, DEAD, ALL_CAN_BE);
        Crypts.plays(sixBesideTheEntry(1), "r", 6, DEAD, ALL_CAN_BE);
        Crypts.plays(sixBesideTheEntry(7), "r", 11, GOES_ON, ALL_CAN_BE);
    }

    private static void takenOnce() {
        RuleCrypts x = Crypts.grown(19, 0, 0, 1, 1, 10, 1);
        Crypts.plays(x, "rl", 5, GOES_ON, ALL_CAN_BE);
        Crypts.plays(x, "rlrl", 5, GOES_ON, ALL_CAN_BE);
        Crypts.plays(x, "rlrlrlrlrl", 5, GOES_ON, ALL_CAN_BE);
        Checks.due("the dungeon has it still", x.hasTreasure(0, 0, 0), true);
    }

    private static void entryOnlyOnComingBack() {
        RuleCrypts x = Crypts.grown(19, 0, 0, 1, 1, 10, 1);
        Crypts.plays(x, "", 0, GOES_ON, ALL_CAN_BE);
        Crypts.plays(x, ".", -1, GOES_ON, ALL_CAN_BE);
        Crypts.plays(x, "r", 0, GOES_ON, ALL_CAN_BE);
        Crypts.plays(x, "rl", 5, GOES_ON, ALL_CAN_BE);
        Crypts.plays(x, "l", 0, GOES_ON, 0);
    }

    private static void onlyAtTheStairs() {
        RuleCrypts x = bare();
        Crypts.plays(x, "s", 0, GOES_ON, 0);
        Crypts.plays(x, "rrrddls", 0, GOES_ON, 6);
        Crypts.plays(x, TO_STAIRS + "s", 0, GOES_ON, ALL_CAN_BE);
        Crypts.plays(x, TO_STAIRS + "us", 0, GOES_ON, 8);
        Crypts.plays(x, TO_STAIRS + "uds", 0, GOES_ON, ALL_CAN_BE);
        Crypts.plays(x, TO_STAIRS + "ss", 0, GOES_ON, 8);
        Crypts.plays(x, TO_STAIRS + "slulus", 0, GOES_ON, 12);
        Crypts.plays(x, TO_STAIRS + "sluluuss", 0, GOES_ON, 14);
    }

    /** The seed 1 has a treasure in the entry of the floor 1, the room 15. */
    private static void nothingIsDone() {
        RuleCrypts x = Crypts.grown(1, 0, 0, 1, 20, 10, 1);
        Checks.due("a treasure in the entry below", x.hasTreasure(0, 1, 15), true);
        Crypts.plays(x, "rrrddd", 20, GOES_ON, ALL_CAN_BE);
        Crypts.plays(x, "rrrddds", 20, GOES_ON, ALL_CAN_BE);
        Crypts.plays(x, "rrrddds.", 19, GOES_ON, ALL_CAN_BE);
        Crypts.plays(x, "rrrdddsl", 20, GOES_ON, ALL_CAN_BE);
        Crypts.plays(x, "rrrdddslr", 25, GOES_ON, ALL_CAN_BE);
        Crypts.plays(x, "rrrdddslrlr", 25, GOES_ON, ALL_CAN_BE);
    }

    /** The seed 6 has a monster of 8 in the room 13, and one of 2 below it; the seed 22 treasures in both rooms 9. */
    private static void floorsOfTheirOwn() {
        RuleCrypts x = Crypts.grown(6, 0, 20, 9, 0, 50, 0);
        Checks.due("on the floor 0", x.monster(0, 0, 13), 8);
        Checks.due("on the floor 1", x.monster(0, 1, 13), 2);
        Crypts.plays(x, "rdlddrrsl", 21, GOES_ON, ALL_CAN_BE);
        Crypts.plays(Crypts.grown(6, 0, 20, 9, 0, 20, 9), "rdlddrr", 19, GOES_ON, ALL_CAN_BE);
        Crypts.plays(Crypts.grown(6, 0, 20, 9, 0, 21, 9), "rdlddrrsl", 21, DEAD, ALL_CAN_BE);
        Crypts.plays(Crypts.grown(6, 0, 20, 9, 0, 22, 9), "rdlddrrsl", 21, GOES_ON, ALL_CAN_BE);
        Crypts.plays(Crypts.grown(22, 0, 0, 1, 20, 10, 0), "rrddldsu", 25, GOES_ON, ALL_CAN_BE);
    }

    private static void outOfTheLastFloor() {
        RuleCrypts x = bare();
        Crypts.plays(x, TO_STAIRS + "s" + "luluu" + "s" + "drrdrd", 0, GOES_ON, ALL_CAN_BE);
        Crypts.plays(x, WAY_OUT, 20, OUT, ALL_CAN_BE);
        Crypts.plays(x, ".".repeat(39) + WAY_OUT, -19, OUT, ALL_CAN_BE);
    }

    /** After the 4 a rest heals as much as was lost, at most: the 8 leaves 0 of 8, and 1 of 9. */
    private static void upToTheHealth() {
        Crypts.plays(fourAndEight(8, 9), "d.d", 11, DEAD, ALL_CAN_BE);
        Crypts.plays(fourAndEight(8, 9), "d..d", 10, DEAD, ALL_CAN_BE);
        Crypts.plays(fourAndEight(8, 9), "..d.d", 9, DEAD, ALL_CAN_BE);
        Crypts.plays(fourAndEight(9, 9), "d.d", 11, GOES_ON, ALL_CAN_BE);
        Crypts.plays(fourAndEight(9, 4), "d.d", 11, GOES_ON, ALL_CAN_BE);
        Crypts.plays(fourAndEight(9, 3), "d.d", 11, DEAD, ALL_CAN_BE);
        Crypts.plays(fourAndEight(9, 3), "d..d", 10, GOES_ON, ALL_CAN_BE);
        Crypts.plays(fourAndEight(12, 9), ".dd", 11, DEAD, ALL_CAN_BE);
    }

    /** Behind the 4 and the 8, a rest and the 9, just so much is left: 1 of 13 by a healing of 9, and 0 by one of 8. */
    private static void leastAndMostHealing() {
        Crypts.plays(fourAndEight(12, 0), "d....d", 8, DEAD, ALL_CAN_BE);
        Crypts.plays(fourAndEight(13, 0), "d....d", 8, GOES_ON, ALL_CAN_BE);
        Crypts.plays(fourAndEight(12, 1), "d.d", 11, GOES_ON, ALL_CAN_BE);
        Crypts.plays(fourAndEight(13, 9), "dd.r", 20, GOES_ON, ALL_CAN_BE);
        Crypts.plays(fourAndEight(13, 8), "dd.r", 20, DEAD, ALL_CAN_BE);
        Crypts.plays(fourAndEight(14, 9), "dd.rd", 22, DEAD, ALL_CAN_BE);
        Crypts.plays(fourAndEight(15, 9), "dd.rd", 22, GOES_ON, ALL_CAN_BE);
    }

    private static void scoreBelowZero() {
        RuleCrypts x = bare();
        Crypts.plays(x, ".", -1, GOES_ON, ALL_CAN_BE);
        Crypts.plays(x, ".".repeat(60), -60, GOES_ON, ALL_CAN_BE);
        Crypts.plays(fourAndEight(50, 0), "....d", 0, GOES_ON, ALL_CAN_BE);
    }

    private static void sixKeys() {
        RuleCrypts x = bare();
        Crypts.plays(x, "dd", 0, GOES_ON, ALL_CAN_BE);
        Crypts.plays(x, "ddu", 0, GOES_ON, ALL_CAN_BE);
        Crypts.plays(x, "rr", 0, GOES_ON, ALL_CAN_BE);
        Crypts.plays(x, "rrl", 0, GOES_ON, ALL_CAN_BE);
        Crypts.plays(x, TO_STAIRS + "s", 0, GOES_ON, ALL_CAN_BE);
        Crypts.plays(x, ".", -1, GOES_ON, ALL_CAN_BE);
        RuleCrypts numbers = bare();
        for (int key : new int[] {3, 0, 2, 1, 5, 4}) {
            numbers.key(key);
        }
        Checks.due("down, up, right, left, a rest, and no stairs", numbers.judge(numbers.handIn(0, 0)), 5);
    }

    /** Out of the floor, to the next row from the end of one, and between two rooms without a door. */
    private static void walls() {
        RuleCrypts x = bare();
        Crypts.plays(x, "u", 0, GOES_ON, 0);
        Crypts.plays(x, "l", 0, GOES_ON, 0);
        Crypts.plays(x, "rrrr", 0, GOES_ON, 3);
        Crypts.plays(x, "rrru", 0, GOES_ON, 3);
        Crypts.plays(x, "dl", 0, GOES_ON, 1);
        Crypts.plays(x, "dr", 0, GOES_ON, 1);
        Crypts.plays(x, "rrrdddr", 0, GOES_ON, 6);
        Crypts.plays(x, "rrrdddd", 0, GOES_ON, 6);
        Crypts.plays(x, "dddd", 0, GOES_ON, 3);
        Crypts.plays(x, "dddl", 0, GOES_ON, 3);
    }

    /** The seed 1547 has its only monster, of 9, at the stairs. */
    private static void whenDead() {
        for (String key : new String[] {"u", "l", "r", "d", "s", "."}) {
            Crypts.plays(sixBesideTheEntry(6), "r" + key, 6, DEAD, 1);
            Crypts.plays(sixBesideTheEntry(5), "r" + key + "l", 6, DEAD, 1);
        }
        Crypts.plays(Crypts.grown(1547, 0, 3, 9, 0, 9, 9), "dddrrrs", 9, DEAD, 6);
        Crypts.plays(Crypts.grown(1547, 0, 3, 9, 0, 9, 9), "dddrrr.s", 9, DEAD, 6);
        Crypts.plays(Crypts.grown(1547, 0, 3, 9, 0, 10, 9), "dddrrrs", 9, GOES_ON, ALL_CAN_BE);
    }

    private static void whenOut() {
        RuleCrypts x = bare();
        for (String key : new String[] {"u", "l", "r", "d", "s", "."}) {
            Crypts.plays(x, WAY_OUT + key, 20, OUT, 21);
        }
        Crypts.plays(x, ".".repeat(38) + WAY_OUT + ".", -18, OUT, 59);
    }

    private static void scoreAsFar() {
        RuleCrypts x = bare();
        Crypts.plays(x, "u....", 0, GOES_ON, 0);
        Crypts.plays(x, "..u...", -2, GOES_ON, 2);
        Crypts.plays(x, "..s...", -2, GOES_ON, 2);
        int run = Crypts.handIn(x, 0, 1000, "u");
        Checks.due("whatever is claimed", x.scoreOf(run), 0);
        x.judge(run);
        Checks.due("and judged", x.scoreOf(run), 0);
    }

    private static void endAsFar() {
        RuleCrypts x = bare();
        Crypts.plays(x, "u" + WAY_OUT, 0, GOES_ON, 0);
        Crypts.plays(x, WAY_OUT.substring(0, 20) + ".ds", -1, GOES_ON, 21);
        Crypts.plays(fourAndEight(4, 0), "ud", 0, GOES_ON, 0);
        Crypts.plays(fourAndEight(4, 0), "du", 4, DEAD, 1);
        int run = Crypts.handIn(x, 0, 0, "u" + WAY_OUT);
        Checks.due("before it is judged", x.endOf(run), GOES_ON);
    }

    private static void threeEnds() {
        RuleCrypts x = bare();
        int none = Crypts.handIn(x, 0, 0, "");
        int out = Crypts.handIn(x, 0, 0, WAY_OUT);
        Checks.due("no keys", x.endOf(none), 0);
        Checks.due("out, not judged, with another claim", x.endOf(out), 2);
        RuleCrypts y = fourAndEight(4, 0);
        int dead = Crypts.handIn(y, 0, 0, "d");
        Checks.due("dead, not judged, with another claim", y.endOf(dead), 1);
        Checks.due("the run before it", y.endOf(0), 0);
    }

    private static void firstAndLastPlace() {
        RuleCrypts x = bare();
        Crypts.plays(x, "u" + ".".repeat(59), 0, GOES_ON, 0);
        Crypts.plays(x, ".".repeat(59) + "u", -59, GOES_ON, 59);
        Crypts.plays(x, ".u.u", -1, GOES_ON, 1);
        int run = Crypts.handIn(x, 0, 7, ".u");
        Checks.due("with another claim too", x.judge(run), 1);
    }

    private static void noKeysAndSixty() {
        RuleCrypts x = bare();
        Crypts.plays(x, "", 0, GOES_ON, ALL_CAN_BE);
        Crypts.plays(x, ".".repeat(60), -60, GOES_ON, ALL_CAN_BE);
        int run = Crypts.handIn(x, 0, 0, "");
        Checks.due("judged", x.judge(run), -1);
        Checks.due("judged again", x.judge(run), -1);
    }

    private static void oneMoreAndOneLess() {
        RuleCrypts x = bare();
        for (int claim : new int[] {-100, -1, 1, 1000}) {
            int run = Crypts.handIn(x, 0, claim, "");
            Checks.due("no keys, the claim " + claim, x.judge(run), -2);
            Checks.due("its verdict", x.verdict(run), -2);
            Checks.due("it is not ranked", x.rank(run), -1);
        }
        for (int claim : new int[] {-61, -59, 60}) {
            int run = Crypts.handIn(x, 0, claim, ".".repeat(60));
            Checks.due("sixty rests, the claim " + claim, x.judge(run), -2);
        }
    }

    private static void notJudged() {
        RuleCrypts x = bare();
        int right = Crypts.handIn(x, 0, 20, WAY_OUT);
        Checks.due("a right one is not ranked", x.rank(right), -1);
        Checks.due("nor anywhere else", x.ranked(0, 0), -1);
        Checks.due("nor glory", x.glory(0), 0);
        x.judge(right);
        Checks.due("judged, it is", x.rank(right), 0);
    }

    private static void minusThree() {
        RuleCrypts x = bare();
        int first = Crypts.handIn(x, 0, 0, "");
        int second = Crypts.handIn(x, 0, 1, "u");
        Checks.due("not judged", x.verdict(first), -3);
        x.scoreOf(first);
        x.endOf(first);
        x.rank(first);
        Checks.due("by no question", x.verdict(first), -3);
        x.judge(second);
        Checks.due("nor by the judgement on another one", x.verdict(first), -3);
        Checks.due("which is judged", x.verdict(second), 0);
        x.judge(first);
        Checks.due("judged", x.verdict(first), -1);
        Checks.due("the other one stays", x.verdict(second), 0);
    }
}
