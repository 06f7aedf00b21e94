import java.util.Arrays;

/**
 * A dungeon workshop: floors of rooms that are grown from a seed by rules, always with a way down,
 * packs that change rules, ordered by what they need, days with one seed and one set of packs, runs
 * that are handed in as rows of keys, and a judge that replays them and finds the turn that cannot be.
 */
public final class RuleCrypts {
    private static final int MOST_PACKS = 10;
    private static final int MOST_CHANGES = 4;
    private static final int MOST_ADDED = 20;
    private static final int MOST_DAYS = 30;
    private static final int MOST_SEED = 65535;
    private static final int MOST_DUNGEONS = 20;
    private static final int MOST_RUNS = 60;
    private static final int MOST_KEYS = 60;
    private static final int PLAYERS = 8;
    private static final int LEAST_CLAIM = -100;
    private static final int MOST_CLAIM = 1000;

    private static final int LOOPS = 0;
    private static final int MONSTERS = 1;
    private static final int STRENGTH = 2;
    private static final int TREASURES = 3;
    private static final int HEALTH = 4;
    private static final int HEALING = 5;
    private static final int RULES = 6;
    private static final int[] FIRST_NUMBER = {3, 4, 3, 3, 10, 1};
    private static final int[] LEAST_NUMBER = {0, 0, 1, 0, 1, 0};
    private static final int[] MOST_NUMBER = {20, 20, 9, 20, 50, 9};

    private static final int FLOORS = 3;
    private static final int SIDE = 4;
    private static final int ROOMS = 16;
    private static final int DIRECTIONS = 4;
    private static final int UP = 0;
    private static final int LEFT = 1;
    private static final int RIGHT = 2;

    private static final int KEY_DOWN = 4;
    private static final int KEY_REST = 5;
    private static final int KEYS = 6;
    private static final int TREASURE_SCORE = 5;
    private static final int OUT_SCORE = 20;
    private static final int REST_SCORE = -1;

    private static final int GOES_ON = 0;
    private static final int DEAD = 1;
    private static final int OUT = 2;

    private static final int RIGHT_VERDICT = -1;
    private static final int WRONG_SCORE_VERDICT = -2;
    private static final int NO_VERDICT = -3;
    private static final int NONE = -1;

    private final PackBook book = new PackBook();
    private int dayCount;
    private int seedToday;
    private int packsToday;
    private final int[] draft = new int[MOST_KEYS];
    private int draftLength;
    private final Dungeon[] had = new Dungeon[MOST_DUNGEONS];
    private int hadCount;
    private final Run[] handedIn = new Run[MOST_RUNS];
    private int runCount;
    private final Replay replay = new Replay();

    public RuleCrypts() {
    }

    // ---- packs

    public int pack() throws IllegalStateException {
        if (!book.addPack()) {
            throw new IllegalStateException("there are 10 packs");
        }
        return book.count - 1;
    }

    public int change(int pack, int rule, boolean sets, int number)
            throws IndexOutOfBoundsException, IllegalArgumentException, IllegalStateException {
        Pack changed = existingPack(pack);
        requireRule(rule);
        int least = sets ? LEAST_NUMBER[rule] : -MOST_ADDED;
        int most = sets ? MOST_NUMBER[rule] : MOST_ADDED;
        if (number < least || number > most) {
            throw new IllegalArgumentException("the number is out of range");
        }
        if (!changed.addChange(rule, sets, number)) {
            throw new IllegalStateException("the pack has 4 changes");
        }
        return changed.changeCount;
    }

    public int mend(int pack) throws IndexOutOfBoundsException, IllegalStateException {
        Pack mended = existingPack(pack);
        if (mended.changeCount == 0) {
            throw new IllegalStateException("the pack has no change");
        }
        mended.changeCount--;
        return mended.changeCount;
    }

    public int setNeeds(int pack, int needs) throws IndexOutOfBoundsException, IllegalArgumentException {
        Pack needing = existingPack(pack);
        requirePacks(needs);
        if (holds(needs, pack)) {
            throw new IllegalArgumentException("a pack does not need itself");
        }
        int before = needing.needs;
        needing.needs = needs;
        return before;
    }

    // ---- days and runs

    public int open(int seed, int packs) throws IllegalArgumentException, IllegalStateException {
        if (seed < 0 || seed > MOST_SEED) {
            throw new IllegalArgumentException("the seed is out of range");
        }
        requirePacks(packs);
        requireOrder(packs);
        if (dayCount >= MOST_DAYS) {
            throw new IllegalStateException("30 days were opened");
        }
        seedToday = seed;
        packsToday = packs;
        dayCount++;
        return dayCount - 1;
    }

    public int key(int key) throws IllegalArgumentException, IllegalStateException {
        if (key < 0 || key >= KEYS) {
            throw new IllegalArgumentException("there is no such key");
        }
        if (draftLength >= MOST_KEYS) {
            throw new IllegalStateException("the draft has 60 keys");
        }
        draft[draftLength] = key;
        draftLength++;
        return draftLength;
    }

    public int wipe() {
        int before = draftLength;
        draftLength = 0;
        return before;
    }

    public int handIn(int player, int score)
            throws IndexOutOfBoundsException, IllegalArgumentException, IllegalStateException {
        requirePlayer(player);
        if (score < LEAST_CLAIM || score > MOST_CLAIM) {
            throw new IllegalArgumentException("the score is out of range");
        }
        // Looked at before the dungeon, which would otherwise be had by a call that throws.
        if (runCount >= MOST_RUNS) {
            throw new IllegalStateException("60 runs were handed in");
        }
        Dungeon dungeon = dungeonForRun();
        if (dungeon == null) {
            throw new IllegalStateException("no dungeon can be had today");
        }
        Run run = new Run(runCount, player, score, dungeon, Arrays.copyOf(draft, Math.max(draftLength, 0)));
        handedIn[runCount] = run;
        runCount++;
        draftLength = 0;
        return run.number;
    }

    public int judge(int run) throws IndexOutOfBoundsException {
        Run judged = existingRun(run);
        replay.play(judged);
        judged.verdictGiven = replay.verdictOn(judged);
        return judged.verdictGiven;
    }

    // ---- rules and packs as they are; nothing from here on changes anything

    public int packs() {
        return book.count;
    }

    public int changes(int pack) throws IndexOutOfBoundsException {
        return existingPack(pack).changeCount;
    }

    public boolean isPossible(int packs) throws IllegalArgumentException {
        requirePacks(packs);
        return book.putInOrder(packs);
    }

    public int orderAt(int packs, int place) throws IllegalArgumentException, IllegalStateException {
        requirePacks(packs);
        if (place < 0) {
            throw new IllegalArgumentException("the place is below 0");
        }
        requireOrder(packs);
        return book.packInPlace(place);
    }

    public int ruleOf(int packs, int rule)
            throws IndexOutOfBoundsException, IllegalArgumentException, IllegalStateException {
        requireRule(rule);
        requirePacks(packs);
        requireOrder(packs);
        book.makeRules();
        return book.rules[rule];
    }

    public int today() {
        return dayCount - 1;
    }

    // ---- dungeons

    public int dungeons() {
        return hadCount;
    }

    public int dungeonToday() {
        Dungeon dungeon = makeRulesToday() ? hadToday() : null;
        return dungeon == null ? NONE : dungeon.number;
    }

    public boolean hasDoor(int dungeon, int floor, int room, int direction)
            throws IndexOutOfBoundsException, IllegalArgumentException {
        Floor there = existingFloor(dungeon, floor);
        requireRoom(room);
        if (direction < 0 || direction >= DIRECTIONS) {
            throw new IllegalArgumentException("there is no such direction");
        }
        return there.behindDoor(room, direction) != NONE;
    }

    public int monster(int dungeon, int floor, int room) throws IndexOutOfBoundsException {
        Floor there = existingFloor(dungeon, floor);
        requireRoom(room);
        return there.monsters[room];
    }

    public boolean hasTreasure(int dungeon, int floor, int room) throws IndexOutOfBoundsException {
        Floor there = existingFloor(dungeon, floor);
        requireRoom(room);
        return holds(there.treasures, room);
    }

    public int stairs(int dungeon, int floor) throws IndexOutOfBoundsException {
        return existingFloor(dungeon, floor).stairsRoom;
    }

    public int way(int dungeon, int floor, int room) throws IndexOutOfBoundsException {
        Floor there = existingFloor(dungeon, floor);
        requireRoom(room);
        return there.distances[room];
    }

    public int wayByDoors(int dungeon, int floor, int room) throws IndexOutOfBoundsException {
        Floor there = existingFloor(dungeon, floor);
        requireRoom(room);
        there.measureByDoors();
        return there.distancesByDoors[room];
    }

    // ---- runs as they are

    public int runs() {
        return runCount;
    }

    public int dungeonOf(int run) throws IndexOutOfBoundsException {
        return existingRun(run).dungeon.number;
    }

    public int verdict(int run) throws IndexOutOfBoundsException {
        return existingRun(run).verdictGiven;
    }

    public int scoreOf(int run) throws IndexOutOfBoundsException {
        replay.play(existingRun(run));
        return replay.score;
    }

    public int endOf(int run) throws IndexOutOfBoundsException {
        replay.play(existingRun(run));
        return replay.end;
    }

    public int rank(int run) throws IndexOutOfBoundsException {
        Run asked = existingRun(run);
        return asked.isRanked() ? countAhead(asked) : NONE;
    }

    public int ranked(int dungeon, int rank) throws IndexOutOfBoundsException, IllegalArgumentException {
        existingDungeon(dungeon);
        if (rank < 0) {
            throw new IllegalArgumentException("the rank is below 0");
        }
        for (int i = 0; i < runCount; i++) {
            Run run = handedIn[i];
            if (run != null && run.isRankedIn(dungeon) && countAhead(run) == rank) {
                return i;
            }
        }
        return NONE;
    }

    public int glory(int player) throws IndexOutOfBoundsException {
        requirePlayer(player);
        int sum = 0;
        for (int i = 0; i < runCount; i++) {
            Run run = handedIn[i];
            if (run != null && run.player == player && run.isRanked() && countAhead(run) == 0) {
                sum += run.claim;
            }
        }
        return sum;
    }

    // ---- what calls ask first

    private Pack existingPack(int pack) {
        Pack existing = book.packAt(pack);
        if (existing == null) {
            throw new IndexOutOfBoundsException("there is no such pack");
        }
        return existing;
    }

    private Dungeon existingDungeon(int dungeon) {
        Dungeon existing = dungeon >= 0 && dungeon < hadCount ? had[dungeon] : null;
        if (existing == null) {
            throw new IndexOutOfBoundsException("there is no such dungeon");
        }
        return existing;
    }

    private Floor existingFloor(int dungeon, int floor) {
        Floor existing = existingDungeon(dungeon).floorAt(floor);
        if (existing == null) {
            throw new IndexOutOfBoundsException("there is no such floor");
        }
        return existing;
    }

    private Run existingRun(int run) {
        Run existing = run >= 0 && run < runCount ? handedIn[run] : null;
        if (existing == null) {
            throw new IndexOutOfBoundsException("there is no such run");
        }
        return existing;
    }

    private static void requireRule(int rule) {
        if (rule < 0 || rule >= RULES) {
            throw new IndexOutOfBoundsException("there is no such rule");
        }
    }

    private static void requireRoom(int room) {
        if (!isRoom(room)) {
            throw new IndexOutOfBoundsException("there is no such room");
        }
    }

    private static void requirePlayer(int player) {
        if (player < 0 || player >= PLAYERS) {
            throw new IndexOutOfBoundsException("there is no such player");
        }
    }

    private void requirePacks(int packs) {
        if (!book.hasAll(packs)) {
            throw new IllegalArgumentException("there is no such pack in the set");
        }
    }

    private void requireOrder(int packs) {
        if (!book.putInOrder(packs)) {
            throw new IllegalStateException("the set is not possible");
        }
    }

    // ---- today's dungeon

    private boolean makeRulesToday() {
        if (dayCount == 0 || !book.putInOrder(packsToday)) {
            return false;
        }
        book.makeRules();
        return true;
    }

    /** The dungeon by today's seed and the rules that the book has made, if a run had it. */
    private Dungeon hadToday() {
        for (int i = 0; i < hadCount; i++) {
            Dungeon dungeon = had[i];
            if (dungeon != null && dungeon.isBy(seedToday, book.rules)) {
                return dungeon;
            }
        }
        return null;
    }

    /** Today's dungeon, had from now on; null if there is none or no more can be had. */
    private Dungeon dungeonForRun() {
        if (!makeRulesToday()) {
            return null;
        }
        Dungeon dungeon = hadToday();
        if (dungeon == null && hadCount < MOST_DUNGEONS) {
            dungeon = new Dungeon(hadCount, seedToday, book.rules.clone());
            dungeon.grow();
            had[hadCount] = dungeon;
            hadCount++;
        }
        return dungeon;
    }

    // ---- ranks

    private int countAhead(Run run) {
        int ahead = 0;
        for (int i = 0; i < runCount; i++) {
            Run other = handedIn[i];
            if (other != null && other.isRankedIn(run.dungeon.number) && other.isAheadOf(run)) {
                ahead++;
            }
        }
        return ahead;
    }

    // ---- numbers

    private static boolean holds(int bits, int bit) {
        return (bits >> bit & 1) != 0;
    }

    /** From 0 to one less than the divisor, whatever is given: it is used as an index. */
    private static int remainder(int number, int divisor) {
        return number > 0 && divisor > 0 ? number % divisor : 0;
    }

    private static boolean isRoom(int room) {
        return room >= 0 && room < ROOMS;
    }

    private static int opposite(int direction) {
        return DIRECTIONS - 1 - direction;
    }

    /** The room beside a room, with a door to it or not; NONE at the edge of the floor. */
    private static int neighbour(int room, int direction) {
        int row = room / SIDE;
        int column = room % SIDE;
        if (direction == UP) {
            return row > 0 ? room - SIDE : NONE;
        }
        if (direction == LEFT) {
            return column > 0 ? room - 1 : NONE;
        }
        if (direction == RIGHT) {
            return column < SIDE - 1 ? room + 1 : NONE;
        }
        return row < SIDE - 1 ? room + SIDE : NONE;
    }

    /** One change of a rule. */
    private static final class Change {
        private final int rule;
        private final boolean sets;
        private final int number;

        Change(int rule, boolean sets, int number) {
            this.rule = rule;
            this.sets = sets;
            this.number = number;
        }

        void applyTo(int[] rules) {
            if (rule < 0 || rule >= RULES || rule >= rules.length) {
                return;
            }
            int wanted = sets ? number : rules[rule] + number;
            rules[rule] = Math.max(LEAST_NUMBER[rule], Math.min(MOST_NUMBER[rule], wanted));
        }
    }

    /** A pack: its changes in their order, and what it needs as bits. */
    private static final class Pack {
        private final Change[] made = new Change[MOST_CHANGES];
        private int changeCount;
        private int needs;

        boolean addChange(int rule, boolean sets, int number) {
            if (changeCount >= MOST_CHANGES) {
                return false;
            }
            made[changeCount] = new Change(rule, sets, number);
            changeCount++;
            return true;
        }

        void applyTo(int[] rules) {
            for (int i = 0; i < changeCount; i++) {
                Change change = made[i];
                if (change != null) {
                    change.applyTo(rules);
                }
            }
        }
    }

    /** All packs; it keeps the order and the rules of the set that was asked last, in rows used again. */
    private static final class PackBook {
        private final Pack[] made = new Pack[MOST_PACKS];
        private int count;
        private final int[] order = new int[MOST_PACKS];
        private int orderLength;
        private final int[] rules = new int[RULES];

        boolean addPack() {
            if (count >= MOST_PACKS) {
                return false;
            }
            made[count] = new Pack();
            count++;
            return true;
        }

        Pack packAt(int pack) {
            return pack >= 0 && pack < count ? made[pack] : null;
        }

        boolean hasAll(int set) {
            return set >>> count == 0;
        }

        /** Puts a set in its order; tells whether all of it came to stand there. */
        boolean putInOrder(int set) {
            int standing = 0;
            orderLength = 0;
            for (int place = 0; place < MOST_PACKS; place++) {
                int next = lowestReady(set & ~standing, standing);
                if (next == NONE) {
                    break;
                }
                order[place] = next;
                orderLength = place + 1;
                standing |= 1 << next;
            }
            return standing == set;
        }

        int packInPlace(int place) {
            return place >= 0 && place < orderLength ? order[place] : NONE;
        }

        /** Makes the rules of the set that was put in order last. */
        void makeRules() {
            System.arraycopy(FIRST_NUMBER, 0, rules, 0, RULES);
            for (int place = 0; place < orderLength; place++) {
                Pack pack = packAt(order[place]);
                if (pack != null) {
                    pack.applyTo(rules);
                }
            }
        }

        private int lowestReady(int waiting, int standing) {
            for (int i = 0; i < count; i++) {
                Pack pack = made[i];
                if (pack != null && holds(waiting, i) && (pack.needs & ~standing) == 0) {
                    return i;
                }
            }
            return NONE;
        }
    }

    /** The numbers that a seed draws. */
    private static final class Draws {
        private int x;

        Draws(int seed) {
            x = seed;
        }

        int next() {
            x = (75 * x + 74) % 65537;
            return x;
        }
    }

    /** A dungeon: its seed, the six numbers of its rules, and its floors. */
    private static final class Dungeon {
        private final int number;
        private final int seed;
        private final int[] rules;
        private final Floor[] floors = new Floor[FLOORS];

        Dungeon(int number, int seed, int[] rules) {
            this.number = number;
            this.seed = seed;
            this.rules = rules;
        }

        void grow() {
            Draws draws = new Draws(seed);
            int entry = 0;
            for (int i = 0; i < FLOORS; i++) {
                Floor floor = new Floor(entry);
                floor.grow(draws, this);
                floors[i] = floor;
                entry = floor.stairsRoom;
            }
        }

        boolean isBy(int otherSeed, int[] otherRules) {
            if (seed != otherSeed) {
                return false;
            }
            for (int i = 0; i < rules.length && i < otherRules.length; i++) {
                if (rules[i] != otherRules[i]) {
                    return false;
                }
            }
            return true;
        }

        int rule(int rule) {
            return rule >= 0 && rule < rules.length ? rules[rule] : 0;
        }

        Floor floorAt(int floor) {
            return floor >= 0 && floor < FLOORS ? floors[floor] : null;
        }
    }

    /** A floor: what its rooms have at first (treasures are bits), and how far they are from the entry. */
    private static final class Floor {
        private final int entry;
        private int stairsRoom;
        private final int[] doors = new int[ROOMS];
        private final int[] monsters = new int[ROOMS];
        private int treasures;
        private final int[] distances = new int[ROOMS];
        private final int[] distancesByDoors = new int[ROOMS];

        Floor(int entry) {
            this.entry = entry;
        }

        void grow(Draws draws, Dungeon dungeon) {
            growWays(draws);
            growLoops(draws, dungeon.rule(LOOPS));
            growMonsters(draws, dungeon.rule(MONSTERS), dungeon.rule(STRENGTH));
            growTreasures(draws, dungeon.rule(TREASURES));
            measureBySearch();
            stairsRoom = farthestRoom();
        }

        /** The room behind a door; NONE if there is no door. */
        int behindDoor(int room, int direction) {
            return isRoom(room) && holds(doors[room], direction) ? neighbour(room, direction) : NONE;
        }

        /** Finds the ways by all doors anew, as a check on those that the search found. */
        void measureByDoors() {
            for (int room = 0; room < ROOMS; room++) {
                distancesByDoors[room] = room == entry ? 0 : ROOMS;
            }
            boolean nearer = true;
            for (int round = 0; nearer && round < ROOMS; round++) {
                nearer = false;
                for (int room = 0; room < ROOMS; room++) {
                    if (bringNearer(room, distancesByDoors[room] + 1)) {
                        nearer = true;
                    }
                }
            }
        }

        /** Tells whether a room behind a door comes nearer by going over this one. */
        private boolean bringNearer(int room, int over) {
            boolean nearer = false;
            for (int direction = 0; direction < DIRECTIONS; direction++) {
                int next = behindDoor(room, direction);
                if (isRoom(next) && over < distancesByDoors[next]) {
                    distancesByDoors[next] = over;
                    nearer = true;
                }
            }
            return nearer;
        }

        private void growWays(Draws draws) {
            int[] found = new int[ROOMS];
            found[0] = entry;
            int foundBits = 1 << entry;
            for (int length = 1; length < ROOMS; length++) {
                int start = remainder(draws.next(), length);
                int turn = draws.next();
                for (int i = 0; i < length; i++) {
                    int room = found[remainder(start + i, length)];
                    int direction = directionToNew(room, turn, foundBits);
                    if (direction != NONE) {
                        found[length] = neighbour(room, direction);
                        foundBits |= 1 << found[length];
                        openDoor(room, direction);
                        break;
                    }
                }
            }
        }

        private static int directionToNew(int room, int turn, int foundBits) {
            for (int i = 0; i < DIRECTIONS; i++) {
                int direction = remainder(turn + i, DIRECTIONS);
                int next = neighbour(room, direction);
                if (next != NONE && !holds(foundBits, next)) {
                    return direction;
                }
            }
            return NONE;
        }

        private void openDoor(int room, int direction) {
            int next = neighbour(room, direction);
            if (isRoom(room) && isRoom(next)) {
                doors[room] |= 1 << direction;
                doors[next] |= 1 << opposite(direction);
            }
        }

        private void growLoops(Draws draws, int times) {
            for (int i = 0; i < times; i++) {
                int room = remainder(draws.next(), ROOMS);
                openDoor(room, remainder(draws.next(), DIRECTIONS));
            }
        }

        private void growMonsters(Draws draws, int times, int strength) {
            for (int i = 0; i < times; i++) {
                int room = remainder(draws.next(), ROOMS);
                int monster = remainder(draws.next(), strength) + 1;
                if (room != entry) {
                    monsters[room] = monster;
                }
            }
        }

        private void growTreasures(Draws draws, int times) {
            for (int i = 0; i < times; i++) {
                treasures |= 1 << remainder(draws.next(), ROOMS);
            }
        }

        private void measureBySearch() {
            for (int room = 0; room < ROOMS; room++) {
                distances[room] = room == entry ? 0 : NONE;
            }
            for (int distance = 0; distance < ROOMS; distance++) {
                for (int room = 0; room < ROOMS; room++) {
                    for (int direction = 0; distances[room] == distance && direction < DIRECTIONS; direction++) {
                        int next = behindDoor(room, direction);
                        if (isRoom(next) && distances[next] == NONE) {
                            distances[next] = distance + 1;
                        }
                    }
                }
            }
        }

        private int farthestRoom() {
            int farthest = entry;
            int most = 0;
            for (int room = 0; room < ROOMS; room++) {
                if (distances[room] > most) {
                    most = distances[room];
                    farthest = room;
                }
            }
            return farthest;
        }
    }

    /** A run as it was handed in, and the verdict on it. */
    private static final class Run {
        private final int number;
        private final int player;
        private final int claim;
        private final Dungeon dungeon;
        private final int[] keys;
        private int verdictGiven = NO_VERDICT;

        Run(int number, int player, int claim, Dungeon dungeon, int[] keys) {
            this.number = number;
            this.player = player;
            this.claim = claim;
            this.dungeon = dungeon;
            this.keys = keys;
        }

        boolean isRanked() {
            return verdictGiven == RIGHT_VERDICT;
        }

        boolean isRankedIn(int dungeonNumber) {
            return isRanked() && dungeon.number == dungeonNumber;
        }

        /** Goes by the claim: of ranked runs it is the score. */
        boolean isAheadOf(Run other) {
            if (claim != other.claim) {
                return claim > other.claim;
            }
            if (keys.length != other.keys.length) {
                return keys.length < other.keys.length;
            }
            return number < other.number;
        }
    }

    /** The player of the run that was played last; no floor is come back to, so the rows are one floor's. */
    private static final class Replay {
        private final int[] monsters = new int[ROOMS];
        private int treasures;
        private Floor floor;
        private int depth;
        private int room;
        private int health;
        private int score;
        private int end;
        private int turns;

        void play(Run run) {
            health = run.dungeon.rule(HEALTH);
            score = 0;
            end = GOES_ON;
            turns = 0;
            enter(run.dungeon, 0);
            for (int i = 0; i < run.keys.length; i++) {
                if (!take(run.keys[i], run.dungeon)) {
                    break;
                }
                turns++;
            }
        }

        /** The verdict on a run that was just played. */
        int verdictOn(Run run) {
            if (turns < run.keys.length) {
                return turns;
            }
            return score == run.claim ? RIGHT_VERDICT : WRONG_SCORE_VERDICT;
        }

        /** Takes a turn; tells whether it can be. */
        private boolean take(int key, Dungeon dungeon) {
            if (end != GOES_ON) {
                return false;
            }
            if (key == KEY_DOWN) {
                return goDown(dungeon);
            }
            if (key == KEY_REST) {
                health = Math.min(health + dungeon.rule(HEALING), dungeon.rule(HEALTH));
                score += REST_SCORE;
                return true;
            }
            return go(key);
        }

        private boolean go(int direction) {
            int next = floor == null ? NONE : floor.behindDoor(room, direction);
            if (!isRoom(next)) {
                return false;
            }
            room = next;
            fight(monsters[next]);
            monsters[next] = 0;
            if (end != DEAD) {
                takeTreasure();
            }
            return true;
        }

        /** A strength of 0 is no monster: nothing comes of it. */
        private void fight(int strength) {
            health -= strength;
            score += strength;
            if (health <= 0) {
                end = DEAD;
            }
        }

        private void takeTreasure() {
            if (holds(treasures, room)) {
                treasures &= ~(1 << room);
                score += TREASURE_SCORE;
            }
        }

        private boolean goDown(Dungeon dungeon) {
            if (floor == null || room != floor.stairsRoom) {
                return false;
            }
            if (depth + 1 < FLOORS) {
                enter(dungeon, depth + 1);
            } else {
                end = OUT;
                score += OUT_SCORE;
            }
            return true;
        }

        private void enter(Dungeon dungeon, int newDepth) {
            depth = newDepth;
            floor = dungeon.floorAt(newDepth);
            if (floor != null) {
                room = floor.entry;
                System.arraycopy(floor.monsters, 0, monsters, 0, ROOMS);
                treasures = floor.treasures;
            }
        }
    }
}
