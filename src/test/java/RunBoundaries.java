import java.util.function.Consumer;

/** Boundaries of the promises 9, 10 and 25 to 32: handing in, runs as they are, ranks and glory. */
final class RunBoundaries {
    private static final String TWICE =
            "If several exceptions apply, the one that is named first in the throws clause is thrown";
    private static final String NO_RUN = "Throws `IndexOutOfBoundsException` if there is no such run";
    private static final String NONE_TO_HAND_IN = "Throws `IllegalStateException` if there is no dungeon of today,"
            + " 60 were handed in, or 20 other dungeons are had";
    private static final String RANKS = "Runs with the verdict -1 are ranked in their dungeon: by the greater score,"
            + " of several by fewer keys, of several by the lower number.";

    private RunBoundaries() {
    }

    static void addTo(Boundaries all) {
        addHandingIn(all);
        addRefusedHandingIn(all);
        addRuns(all);
        addRanks(all);
        addGlory(all);
    }

    private static void addHandingIn(Boundaries all) {
        all.add(9, "Runs are numbered from 0 on; at most 60 are handed in.", RunBoundaries::sixtyRuns);
        all.add(9, "A run is of a player, 0 to 7", RunBoundaries::firstAndLastPlayer);
        all.add(9, "has the keys of the draft, which has at most 60 and is empty then", RunBoundaries::draftOfSixty);
        all.add(9, "has the keys of the draft, which has at most 60 and is empty then", RunBoundaries::emptyThen);
        all.add(9, "a score that is claimed, and the dungeon of today as it is then", RunBoundaries::asItIsThen);
        all.add(9, "- `score`: -100 to 1000: the score that is claimed", RunBoundaries::leastAndMostClaim);
    }

    private static void addRefusedHandingIn(Boundaries all) {
        all.add(9, "Throws `IndexOutOfBoundsException` if there is no such player", RunBoundaries::runOfNoPlayer);
        all.add(9, "Throws `IllegalArgumentException` if score is out of range", RunBoundaries::claimOutOfRange);
        all.add(9, NONE_TO_HAND_IN, RunBoundaries::noDay);
        all.add(9, NONE_TO_HAND_IN, RunBoundaries::notPossibleToday);
        all.add(9, NONE_TO_HAND_IN, RunBoundaries::runSixtyOne);
        all.add(9, NONE_TO_HAND_IN, RunBoundaries::dungeonTwentyOne);
        all.add(9, TWICE, RunBoundaries::handInRefusedTwice);
    }

    private static void addRuns(Boundaries all) {
        all.add(25, "Returns how many runs were handed in.", RunBoundaries::noneToSixty);
        all.add(26, "Returns the dungeon of a run.", RunBoundaries::firstAndLastDungeon);
        all.add(26, "runs keep the one that they had, and are ranked in that alone", RunBoundaries::keptDungeon);
        all.add(10, NO_RUN, () -> noRun((x, run) -> x.judge(run)));
        all.add(26, NO_RUN, () -> noRun((x, run) -> x.dungeonOf(run)));
        all.add(27, NO_RUN, () -> noRun((x, run) -> x.verdict(run)));
        all.add(28, NO_RUN, () -> noRun((x, run) -> x.scoreOf(run)));
        all.add(29, NO_RUN, () -> noRun((x, run) -> x.endOf(run)));
        all.add(30, NO_RUN, () -> noRun((x, run) -> x.rank(run)));
    }

    private static void addRanks(Boundaries all) {
        all.add(30, "Returns the rank, from 0 on; -1 if it is not ranked.", RunBoundaries::firstAndLastRank);
        all.add(30, "Returns the rank, from 0 on; -1 if it is not ranked.", RunBoundaries::notRanked);
        all.add(30, RANKS, RunBoundaries::greaterScore);
        all.add(30, RANKS, RunBoundaries::fewerKeys);
        all.add(30, RANKS, RunBoundaries::lowerNumber);
        all.add(31, "- `rank`: 0 for the first one", RunBoundaries::firstOne);
        all.add(31, "Returns the run; -1 if there are not so many.", RunBoundaries::notSoMany);
        all.add(31, "Throws `IndexOutOfBoundsException` if there is no such dungeon", RunBoundaries::rankInNoDungeon);
        all.add(31, "Throws `IllegalArgumentException` if rank is below 0", RunBoundaries::rankBelow);
        all.add(31, TWICE, RunBoundaries::rankedRefusedTwice);
    }

    private static void addGlory(Boundaries all) {
        all.add(32, "Returns the sum of the scores of all ranked runs of a player with the rank 0 in their dungeons.",
                RunBoundaries::noGlory);
        all.add(32, "Returns the sum of the scores of all ranked runs of a player with the rank 0 in their dungeons.",
                RunBoundaries::gloryOfTwenty);
        all.add(32, "Returns the sum of the scores of all ranked runs of a player with the rank 0 in their dungeons.",
                RunBoundaries::gloryOfSixtyRuns);
        all.add(32, "Throws `IndexOutOfBoundsException` if there is no such player", RunBoundaries::gloryOfNoPlayer);
        all.add(32, "A method that takes a rule, a pack, a dungeon, a floor, a room, a player or a run throws"
                + " IndexOutOfBoundsException if there is no such one.", RunBoundaries::nothingOfANewObject);
        all.add(9, "A call that throws an exception changes nothing.", RunBoundaries::manyRefused);
        all.add(11, "nothing from here on changes anything", RunBoundaries::manyQuestions);
    }

    private interface Question {
        void ask(RuleCrypts x, int run);
    }

    private static RuleCrypts opened() {
        RuleCrypts x = new RuleCrypts();
        x.open(0, 0);
        return x;
    }

    private static RuleCrypts withRuns(int count) {
        RuleCrypts x = opened();
        for (int i = 0; i < count; i++) {
            x.handIn(0, 0);
        }
        return x;
    }

    private static RuleCrypts withDungeons(int count) {
        RuleCrypts x = new RuleCrypts();
        for (int seed = 0; seed < count; seed++) {
            x.open(seed, 0);
            x.handIn(0, 0);
        }
        return x;
    }

    private static void sixtyRuns() {
        RuleCrypts x = opened();
        for (int i = 0; i < 60; i++) {
            Checks.due("handIn", x.handIn(i % 8, 0), i);
        }
        Checks.due("the last one is there", x.judge(59), -1);
    }

    private static void firstAndLastPlayer() {
        RuleCrypts x = opened();
        for (int player = 0; player < 8; player++) {
            Checks.due("of the player " + player, x.handIn(player, 0), player);
        }
    }

    private static void draftOfSixty() {
        RuleCrypts x = opened();
        int sixty = Crypts.handIn(x, 0, -60, ".".repeat(60));
        int none = Crypts.handIn(x, 0, 0, "");
        int one = Crypts.handIn(x, 0, -1, ".");
        Checks.due("sixty keys", x.scoreOf(sixty), -60);
        Checks.due("no keys", x.scoreOf(none), 0);
        Checks.due("one key", x.scoreOf(one), -1);
        Checks.due("sixty keys, judged", x.judge(sixty), -1);
    }

    private static void emptyThen() {
        RuleCrypts x = opened();
        Crypts.handIn(x, 0, 0, "...");
        Checks.due("it is empty", x.wipe(), 0);
        Checks.due("the next key is its first", x.key(0), 1);
        Checks.due("the run keeps its own", x.scoreOf(0), -3);
        Crypts.handIn(x, 0, 0, ".");
        Checks.due("that key leads the next run", x.judge(1), 0);
    }

    private static void asItIsThen() {
        RuleCrypts x = Crypts.withPacks(1);
        x.open(0, 1);
        x.handIn(0, 0);
        x.change(0, 0, true, 20);
        x.handIn(0, 0);
        x.open(1, 1);
        x.handIn(0, 0);
        x.open(0, 1);
        x.mend(0);
        x.handIn(0, 0);
        int[] due = {0, 1, 2, 0};
        for (int run = 0; run < 4; run++) {
            Checks.due("the dungeon of the run " + run, x.dungeonOf(run), due[run]);
        }
    }

    private static void leastAndMostClaim() {
        RuleCrypts x = opened();
        Checks.due("-100", x.handIn(0, -100), 0);
        Checks.due("1000", x.handIn(0, 1000), 1);
        Checks.due("-100 is not what it has", x.judge(0), -2);
        Checks.due("1000 is not what it has", x.judge(1), -2);
        Checks.due("the claim is not the score", x.scoreOf(1), 0);
    }

    private static RuleCrypts drafted() {
        RuleCrypts x = opened();
        Crypts.handIn(x, 3, -1, ".");
        x.judge(0);
        Crypts.press(x, "..");
        return x;
    }

    private static void runOfNoPlayer() {
        for (int player : Crypts.beyond(8)) {
            Crypts.refused("handIn(" + player + ", 0)", Crypts.INDEX, RunBoundaries::drafted,
                    x -> x.handIn(player, 0));
        }
    }

    private static void claimOutOfRange() {
        for (int score : new int[] {-101, 1001, -102, 65536, Integer.MIN_VALUE, Integer.MAX_VALUE}) {
            Crypts.refused("handIn(0, " + score + ")", Crypts.ARGUMENT, RunBoundaries::drafted,
                    x -> x.handIn(0, score));
        }
    }

    private static void noDay() {
        Crypts.refused("handIn of a new object", Crypts.STATE, RuleCrypts::new, x -> x.handIn(0, 0));
        Crypts.refused("handIn with a draft, without a day", Crypts.STATE, RunBoundaries::draftWithoutDay,
                x -> x.handIn(0, 0));
    }

    private static RuleCrypts draftWithoutDay() {
        RuleCrypts x = Crypts.withPacks(1);
        Crypts.press(x, "..");
        return x;
    }

    private static void notPossibleToday() {
        Crypts.refused("without what it needs", Crypts.STATE, RunBoundaries::needy, x -> x.handIn(0, 0));
        RuleCrypts x = needy();
        x.setNeeds(0, 0);
        Checks.due("possible again", x.handIn(0, 0), 1);
        Checks.due("with the keys that the draft had", x.scoreOf(1), -2);
    }

    private static RuleCrypts needy() {
        RuleCrypts x = Crypts.withPacks(2);
        x.open(0, 1);
        x.handIn(0, 0);
        Crypts.press(x, "..");
        x.setNeeds(0, 2);
        return x;
    }

    private static void runSixtyOne() {
        Checks.due("the 60th", withRuns(59).handIn(0, 0), 59);
        Crypts.refused("a 61st", Crypts.STATE, () -> withRuns(60), x -> x.handIn(0, 0));
        Crypts.refused("a 61st in another dungeon", Crypts.STATE, RunBoundaries::sixtyAndAnotherDay,
                x -> x.handIn(0, 0));
        RuleCrypts x = withRuns(60);
        x.key(5);
        Checks.throwsDue("a 61st with a draft", Crypts.STATE, () -> x.handIn(0, 0));
        Checks.due("which stands", x.wipe(), 1);
        Checks.due("sixty still", x.runs(), 60);
    }

    private static RuleCrypts sixtyAndAnotherDay() {
        RuleCrypts x = withRuns(60);
        x.open(1, 0);
        return x;
    }

    private static void dungeonTwentyOne() {
        Checks.due("the 20th", withDungeons(19).open(19, 0), 19);
        RuleCrypts x = withDungeons(19);
        x.open(19, 0);
        Checks.due("the 20th dungeon is had", x.handIn(0, 0), 19);
        Crypts.refused("a 21st dungeon", Crypts.STATE, RunBoundaries::twentyAndAnotherDay, y -> y.handIn(0, 0));
        RuleCrypts y = twentyAndAnotherDay();
        Checks.throwsDue("a 21st dungeon", Crypts.STATE, () -> y.handIn(0, 0));
        y.open(0, 0);
        Checks.due("the first of the twenty", y.handIn(0, 0), 20);
        y.open(19, 0);
        Checks.due("the last of the twenty", y.handIn(0, 0), 21);
        Checks.due("its dungeon", y.dungeonOf(21), 19);
    }

    private static RuleCrypts twentyAndAnotherDay() {
        RuleCrypts x = withDungeons(20);
        x.open(20, 0);
        return x;
    }

    private static void handInRefusedTwice() {
        Checks.throwsDue("no player, no claim", Crypts.INDEX, () -> opened().handIn(8, 1001));
        Checks.throwsDue("no player, no day", Crypts.INDEX, () -> new RuleCrypts().handIn(-1, 0));
        Checks.throwsDue("no claim, no day", Crypts.ARGUMENT, () -> new RuleCrypts().handIn(0, -101));
        Checks.throwsDue("no player, sixty runs", Crypts.INDEX, () -> withRuns(60).handIn(8, 0));
        Checks.throwsDue("no claim, sixty runs", Crypts.ARGUMENT, () -> withRuns(60).handIn(0, 1001));
        Checks.throwsDue("no claim, a 21st dungeon", Crypts.ARGUMENT, () -> twentyAndAnotherDay().handIn(0, 1001));
        Checks.throwsDue("all of it", Crypts.INDEX, () -> new RuleCrypts().handIn(8, -101));
    }

    private static void noneToSixty() {
        RuleCrypts x = opened();
        Checks.due("none", x.runs(), 0);
        for (int i = 1; i <= 60; i++) {
            x.handIn(0, 0);
            Checks.due("runs()", x.runs(), i);
        }
        Checks.throwsDue("one more", Crypts.STATE, () -> x.handIn(0, 0));
        Checks.due("sixty still", x.runs(), 60);
    }

    private static void firstAndLastDungeon() {
        RuleCrypts x = withDungeons(20);
        Checks.due("the first one", x.dungeonOf(0), 0);
        Checks.due("the last one", x.dungeonOf(19), 19);
    }

    private static void keptDungeon() {
        RuleCrypts x = Crypts.withPacks(1);
        x.change(0, 4, true, 50);
        x.open(0, 1);
        Crypts.judged(x, 0, -2, "..");
        x.mend(0);
        Crypts.judged(x, 1, -1, ".");
        Checks.due("it keeps the one that it had", x.dungeonOf(0), 0);
        Checks.due("the later one has another", x.dungeonOf(1), 1);
        Checks.due("ranked in that alone", x.rank(0), 0);
        Checks.due("ranked in that alone", x.rank(1), 0);
        Checks.due("one in each", x.ranked(0, 1), -1);
        Checks.due("one in each", x.ranked(1, 1), -1);
        x.setNeeds(0, 0);
        Checks.due("judged again by the dungeon that it had", x.judge(0), -1);
    }

    /** The first and the last run that are there, and what lies beyond. */
    private static void noRun(Question question) {
        RuleCrypts x = drafted();
        question.ask(x, 0);
        RuleCrypts sixty = withRuns(60);
        question.ask(sixty, 59);
        for (int run : Crypts.beyond(1)) {
            refused("the run " + run + " of one", x1 -> question.ask(x1, run));
        }
        Crypts.refused("the run 0 of none", Crypts.INDEX, RunBoundaries::opened, y -> question.ask(y, 0));
        Crypts.refused("the run 60 of sixty", Crypts.INDEX, () -> withRuns(60), y -> question.ask(y, 60));
    }

    private static void refused(String call, Consumer<RuleCrypts> body) {
        Crypts.refused(call, Crypts.INDEX, RunBoundaries::drafted, body);
    }

    private static RuleCrypts sixtyJudged() {
        RuleCrypts x = withRuns(60);
        for (int run = 59; run >= 0; run--) {
            x.judge(run);
        }
        return x;
    }

    private static void firstAndLastRank() {
        RuleCrypts x = sixtyJudged();
        for (int run = 0; run < 60; run++) {
            Checks.due("rank", x.rank(run), run);
        }
    }

    private static void notRanked() {
        RuleCrypts x = opened();
        x.handIn(0, 0);
        x.handIn(0, 1);
        Crypts.handIn(x, 0, 0, "u");
        Crypts.handIn(x, 0, 0, "");
        for (int run = 1; run < 4; run++) {
            x.judge(run);
        }
        Checks.due("not judged", x.rank(0), -1);
        Checks.due("another score", x.rank(1), -1);
        Checks.due("a turn that cannot be", x.rank(2), -1);
        Checks.due("the only one that is ranked", x.rank(3), 0);
    }

    /** One more of score ranks first, though it has more keys and a higher number. */
    private static void greaterScore() {
        RuleCrypts x = opened();
        int less = Crypts.judged(x, 0, -2, "..");
        int more = Crypts.judged(x, 1, -1, "rl.");
        Checks.due("the greater score", x.rank(more), 0);
        Checks.due("the lesser score", x.rank(less), 1);
        int none = Crypts.judged(x, 2, 0, "rlrl");
        Checks.due("0 is greater than -1", x.rank(none), 0);
        Checks.due("which comes second then", x.rank(more), 1);
    }

    /** One key fewer ranks first, though it has a higher number. */
    private static void fewerKeys() {
        RuleCrypts x = opened();
        int more = Crypts.judged(x, 0, 0, "rl");
        int fewer = Crypts.judged(x, 1, 0, "r");
        int none = Crypts.judged(x, 2, 0, "");
        Checks.due("no keys", x.rank(none), 0);
        Checks.due("one key", x.rank(fewer), 1);
        Checks.due("two keys", x.rank(more), 2);
    }

    private static void lowerNumber() {
        RuleCrypts x = opened();
        Crypts.handIn(x, 7, -1, ".");
        Crypts.handIn(x, 0, -1, ".");
        x.judge(1);
        Checks.due("alone", x.rank(1), 0);
        x.judge(0);
        Checks.due("the lower number, though judged later", x.rank(0), 0);
        Checks.due("the higher number", x.rank(1), 1);
    }

    private static void firstOne() {
        RuleCrypts x = sixtyJudged();
        for (int rank = 0; rank < 60; rank++) {
            Checks.due("ranked", x.ranked(0, rank), rank);
        }
    }

    private static void notSoMany() {
        RuleCrypts x = sixtyJudged();
        Checks.due("the rank 60 of sixty", x.ranked(0, 60), -1);
        Checks.due("the highest rank", x.ranked(0, Integer.MAX_VALUE), -1);
        RuleCrypts none = withRuns(1);
        Checks.due("the rank 0 of none", none.ranked(0, 0), -1);
        none.judge(0);
        Checks.due("the rank 0 of one", none.ranked(0, 0), 0);
        Checks.due("the rank 1 of one", none.ranked(0, 1), -1);
    }

    private static void rankInNoDungeon() {
        for (int dungeon : Crypts.beyond(1)) {
            refused("ranked(" + dungeon + ", 0)", x -> x.ranked(dungeon, 0));
        }
        Crypts.refused("ranked(0, 0) of none", Crypts.INDEX, RunBoundaries::opened, x -> x.ranked(0, 0));
        Crypts.refused("ranked(20, 0) of twenty", Crypts.INDEX, () -> withDungeons(20), x -> x.ranked(20, 0));
        Checks.due("ranked(19, 0) of twenty", withDungeons(20).ranked(19, 0), -1);
    }

    private static void rankBelow() {
        for (int rank : new int[] {-1, -2, -256, Integer.MIN_VALUE}) {
            Crypts.refused("ranked(0, " + rank + ")", Crypts.ARGUMENT, RunBoundaries::drafted,
                    x -> x.ranked(0, rank));
        }
    }

    private static void rankedRefusedTwice() {
        Checks.throwsDue("no dungeon, below 0", Crypts.INDEX, () -> drafted().ranked(1, -1));
        Checks.throwsDue("no dungeon, below 0", Crypts.INDEX, () -> drafted().ranked(-1, Integer.MIN_VALUE));
        Checks.throwsDue("dungeon 0 of none, below 0", Crypts.INDEX, () -> opened().ranked(0, -1));
    }

    private static void noGlory() {
        RuleCrypts x = opened();
        Checks.due("without runs", x.glory(0), 0);
        Crypts.handIn(x, 0, -3, "...");
        Checks.due("not judged", x.glory(0), 0);
        x.judge(0);
        Checks.due("below 0", x.glory(0), -3);
        Checks.due("another player", x.glory(7), 0);
        Crypts.judged(x, 0, -4, "....");
        Checks.due("the rank 1 counts nothing", x.glory(0), -3);
        Crypts.judged(x, 7, -2, "..");
        Checks.due("not first any more", x.glory(0), 0);
        Checks.due("the first one's", x.glory(7), -2);
        x.handIn(7, 1000);
        x.judge(3);
        Checks.due("a claim that is not right counts nothing", x.glory(7), -2);
    }

    private static void gloryOfTwenty() {
        RuleCrypts x = new RuleCrypts();
        int sum = 0;
        for (int seed = 0; seed < 20; seed++) {
            x.open(seed, 0);
            int rests = seed % 3;
            Crypts.judged(x, 7, -rests, ".".repeat(rests));
            sum -= rests;
            Checks.due("in " + (seed + 1) + " dungeons", x.glory(7), sum);
        }
        Checks.due("of another player", x.glory(0), 0);
    }

    /** The last run is the one that counts. */
    private static void gloryOfSixtyRuns() {
        RuleCrypts x = opened();
        for (int run = 0; run < 59; run++) {
            Crypts.handIn(x, 0, -2, "..");
        }
        Crypts.judged(x, 7, -1, ".");
        Checks.due("alone", x.glory(7), -1);
        Checks.due("of the others' player", x.glory(0), 0);
        x.judge(58);
        x.judge(0);
        Checks.due("before the others", x.glory(7), -1);
        Checks.due("of the others' player", x.glory(0), 0);
    }

    private static void gloryOfNoPlayer() {
        for (int player : Crypts.beyond(8)) {
            refused("glory(" + player + ")", x -> x.glory(player));
        }
        for (int player = 0; player < 8; player++) {
            Checks.due("of a new object", new RuleCrypts().glory(player), 0);
        }
    }

    private static void nothingOfANewObject() {
        Question[] questions = {(x, i) -> x.change(i, 0, true, 0), (x, i) -> x.mend(i),
            (x, i) -> x.setNeeds(i, 0), (x, i) -> x.judge(i), (x, i) -> x.changes(i),
            (x, i) -> x.hasDoor(i, 0, 0, 0), (x, i) -> x.monster(i, 0, 0), (x, i) -> x.hasTreasure(i, 0, 0),
            (x, i) -> x.stairs(i, 0), (x, i) -> x.way(i, 0, 0), (x, i) -> x.wayByDoors(i, 0, 0),
            (x, i) -> x.dungeonOf(i), (x, i) -> x.verdict(i), (x, i) -> x.scoreOf(i), (x, i) -> x.endOf(i),
            (x, i) -> x.rank(i), (x, i) -> x.ranked(i, 0), (x, i) -> x.ruleOf(0, i + 6),
            (x, i) -> x.handIn(i + 8, 0), (x, i) -> x.glory(i + 8)};
        for (int which = 0; which < questions.length; which++) {
            Question question = questions[which];
            for (int i : new int[] {0, 1}) {
                Crypts.refused("question " + which + " for " + i, Crypts.INDEX, RuleCrypts::new,
                        x -> question.ask(x, i));
            }
        }
    }

    /** One of each refusal, one behind the other, on an object that has some of everything. */
    private static void manyRefused() {
        RuleCrypts x = some();
        Class<IndexOutOfBoundsException> index = Crypts.INDEX;
        Class<IllegalArgumentException> argument = Crypts.ARGUMENT;
        Class<IllegalStateException> state = Crypts.STATE;
        Checks.throwsDue("change", index, () -> x.change(3, 0, true, 0));
        Checks.throwsDue("change", argument, () -> x.change(0, 0, true, 21));
        Checks.throwsDue("change", state, () -> x.change(2, 0, true, 0));
        Checks.throwsDue("mend", index, () -> x.mend(3));
        Checks.throwsDue("mend", state, () -> x.mend(1));
        Checks.throwsDue("setNeeds", index, () -> x.setNeeds(3, 0));
        Checks.throwsDue("setNeeds", argument, () -> x.setNeeds(0, 1));
        Checks.throwsDue("open", argument, () -> x.open(65536, 0));
        Checks.throwsDue("open", state, () -> x.open(9, 1));
        Checks.throwsDue("key", argument, () -> x.key(6));
        Checks.throwsDue("handIn", index, () -> x.handIn(8, 0));
        Checks.throwsDue("handIn", argument, () -> x.handIn(0, 1001));
        Checks.throwsDue("judge", index, () -> x.judge(2));
        Checks.throwsDue("isPossible", argument, () -> x.isPossible(8));
        Checks.throwsDue("orderAt", state, () -> x.orderAt(1, 0));
        Checks.throwsDue("ruleOf", state, () -> x.ruleOf(1, 0));
        Checks.throwsDue("hasDoor", argument, () -> x.hasDoor(0, 0, 0, 4));
        Checks.throwsDue("wayByDoors", index, () -> x.wayByDoors(0, 0, 16));
        Checks.throwsDue("scoreOf", index, () -> x.scoreOf(2));
        Checks.throwsDue("ranked", argument, () -> x.ranked(0, -1));
        Checks.throwsDue("glory", index, () -> x.glory(8));
        Checks.due("nothing is changed", Crypts.reading(x), Crypts.reading(some()));
    }

    /** Each question, twice or so: a run that is looked at is not judged by that, a rule that is told not changed. */
    private static void manyQuestions() {
        RuleCrypts x = some();
        for (int i = 0; i < 2; i++) {
            x.changes(i);
            x.isPossible(i);
            x.orderAt(4 + i, i);
            x.ruleOf(4 + i, i);
            x.dungeonOf(i);
            x.verdict(i);
            x.scoreOf(i);
            x.endOf(i);
            x.rank(i);
            x.ranked(0, i);
            x.glory(i);
            x.monster(0, i, i);
            x.hasTreasure(0, i, i);
            x.hasDoor(0, i, i, i);
            x.stairs(0, i);
            x.way(0, i, i);
            x.wayByDoors(0, i, i);
        }
        Checks.due("packs(), today()", x.packs() + x.today(), 3);
        Checks.due("dungeons(), dungeonToday(), runs()", x.dungeons() + x.dungeonToday() + x.runs(), 3);
        Checks.due("nothing is changed", Crypts.reading(x), Crypts.reading(some()));
    }

    private static RuleCrypts some() {
        RuleCrypts x = Crypts.withPacks(3);
        x.change(0, 0, true, 7);
        for (int i = 0; i < 4; i++) {
            x.change(2, i + 1, false, 1);
        }
        x.setNeeds(0, 4);
        x.open(9, 5);
        Crypts.judged(x, 1, -1, ".");
        Crypts.handIn(x, 2, 0, "..");
        Crypts.press(x, "...");
        return x;
    }
}
