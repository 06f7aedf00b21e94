import java.util.ArrayList;
import java.util.Comparator;
import java.util.HashSet;
import java.util.List;
import java.util.Set;

/**
 * The document once more, written another way (with lists, sets and shortest ways by all pairs), so that
 * the tests can compare the class with it. Each call throws what the document names first.
 */
final class Model {
    static final int[] FIRST = {3, 4, 3, 3, 10, 1};
    static final int[] LEAST = {0, 0, 1, 0, 1, 0};
    static final int[] MOST = {20, 20, 9, 20, 50, 9};

    final List<List<int[]>> packChanges = new ArrayList<>();
    final List<Integer> packNeeds = new ArrayList<>();
    final List<int[]> days = new ArrayList<>();
    final List<Integer> draft = new ArrayList<>();
    final List<ModelDungeon> dungeons = new ArrayList<>();
    final List<ModelRun> runs = new ArrayList<>();

    static final class ModelRun {
        int number;
        int player;
        int claim;
        int dungeon;
        List<Integer> keys;
        int verdict = -3;
    }

    /** What playing a row of keys comes to. */
    static final class Played {
        int score;
        int end;
        int turns;
        int floor;
        int room;
        int health;
    }

    int pack() {
        if (packNeeds.size() == 10) {
            throw new IllegalStateException();
        }
        packNeeds.add(0);
        packChanges.add(new ArrayList<>());
        return packNeeds.size() - 1;
    }

    int change(int pack, int rule, boolean sets, int number) {
        index(pack, packNeeds.size());
        index(rule, 6);
        argument(sets ? number >= LEAST[rule] && number <= MOST[rule] : Math.abs((long) number) <= 20);
        if (packChanges.get(pack).size() == 4) {
            throw new IllegalStateException();
        }
        packChanges.get(pack).add(new int[] {rule, sets ? 1 : 0, number});
        return packChanges.get(pack).size();
    }

    int mend(int pack) {
        index(pack, packNeeds.size());
        List<int[]> list = packChanges.get(pack);
        if (list.isEmpty()) {
            throw new IllegalStateException();
        }
        list.remove(list.size() - 1);
        return list.size();
    }

    int setNeeds(int pack, int needs) {
        index(pack, packNeeds.size());
        set(needs);
        argument((needs & 1 << pack) == 0);
        return packNeeds.set(pack, needs);
    }

    int open(int seed, int packs) {
        argument(seed >= 0 && seed <= 65535);
        set(packs);
        if (order(packs) == null || days.size() == 30) {
            throw new IllegalStateException();
        }
        days.add(new int[] {seed, packs});
        return days.size() - 1;
    }

    int key(int key) {
        argument(key >= 0 && key <= 5);
        if (draft.size() == 60) {
            throw new IllegalStateException();
        }
        draft.add(key);
        return draft.size();
    }

    int wipe() {
        int before = draft.size();
        draft.clear();
        return before;
    }

    int handIn(int player, int score) {
        index(player, 8);
        argument(score >= -100 && score <= 1000);
        int[] identity = identityToday();
        int number = identity == null ? -1 : numberOf(identity);
        if (identity == null || runs.size() == 60 || number < 0 && dungeons.size() == 20) {
            throw new IllegalStateException();
        }
        if (number < 0) {
            number = dungeons.size();
            dungeons.add(new ModelDungeon(identity));
        }
        ModelRun run = new ModelRun();
        run.number = runs.size();
        run.player = player;
        run.claim = score;
        run.dungeon = number;
        run.keys = new ArrayList<>(draft);
        draft.clear();
        runs.add(run);
        return run.number;
    }

    int judge(int run) {
        index(run, runs.size());
        ModelRun judged = runs.get(run);
        Played played = play(dungeons.get(judged.dungeon), judged.keys);
        boolean all = played.turns == judged.keys.size();
        judged.verdict = !all ? played.turns : played.score == judged.claim ? -1 : -2;
        return judged.verdict;
    }

    int packs() {
        return packNeeds.size();
    }

    int changes(int pack) {
        index(pack, packNeeds.size());
        return packChanges.get(pack).size();
    }

    boolean isPossible(int packs) {
        set(packs);
        return order(packs) != null;
    }

    int orderAt(int packs, int place) {
        set(packs);
        argument(place >= 0);
        List<Integer> order = order(packs);
        if (order == null) {
            throw new IllegalStateException();
        }
        return place < order.size() ? order.get(place) : -1;
    }

    int ruleOf(int packs, int rule) {
        index(rule, 6);
        set(packs);
        List<Integer> order = order(packs);
        if (order == null) {
            throw new IllegalStateException();
        }
        return rules(order)[rule];
    }

    int today() {
        return days.size() - 1;
    }

    int dungeons() {
        return dungeons.size();
    }

    int dungeonToday() {
        int[] identity = identityToday();
        return identity == null ? -1 : numberOf(identity);
    }

    boolean hasDoor(int dungeon, int floor, int room, int direction) {
        place(dungeon, floor, room);
        argument(direction >= 0 && direction <= 3);
        return dungeons.get(dungeon).floors.get(floor).door(room, direction);
    }

    int monster(int dungeon, int floor, int room) {
        place(dungeon, floor, room);
        return dungeons.get(dungeon).floors.get(floor).monster[room];
    }

    boolean hasTreasure(int dungeon, int floor, int room) {
        place(dungeon, floor, room);
        return dungeons.get(dungeon).floors.get(floor).treasure.contains(room);
    }

    int stairs(int dungeon, int floor) {
        place(dungeon, floor, 0);
        return dungeons.get(dungeon).floors.get(floor).stairs;
    }

    int way(int dungeon, int floor, int room) {
        place(dungeon, floor, room);
        return dungeons.get(dungeon).floors.get(floor).way[room];
    }

    int wayByDoors(int dungeon, int floor, int room) {
        return way(dungeon, floor, room);
    }

    int runs() {
        return runs.size();
    }

    int dungeonOf(int run) {
        index(run, runs.size());
        return runs.get(run).dungeon;
    }

    int verdict(int run) {
        index(run, runs.size());
        return runs.get(run).verdict;
    }

    int scoreOf(int run) {
        index(run, runs.size());
        return play(dungeons.get(runs.get(run).dungeon), runs.get(run).keys).score;
    }

    int endOf(int run) {
        index(run, runs.size());
        return play(dungeons.get(runs.get(run).dungeon), runs.get(run).keys).end;
    }

    int rank(int run) {
        index(run, runs.size());
        return ranking(runs.get(run).dungeon).indexOf(run);
    }

    int ranked(int dungeon, int rank) {
        index(dungeon, dungeons.size());
        argument(rank >= 0);
        List<Integer> ranking = ranking(dungeon);
        return rank < ranking.size() ? ranking.get(rank) : -1;
    }

    int glory(int player) {
        index(player, 8);
        int sum = 0;
        for (int i = 0; i < dungeons.size(); i++) {
            List<Integer> ranking = ranking(i);
            if (!ranking.isEmpty() && runs.get(ranking.get(0)).player == player) {
                sum += scoreOf(ranking.get(0));
            }
        }
        return sum;
    }

    /** The keys' effect in a dungeon, up to the first one that cannot be. */
    static Played play(ModelDungeon dungeon, List<Integer> keys) {
        Played p = new Played();
        p.health = dungeon.rules[4];
        Set<Integer> beaten = new HashSet<>();
        Set<Integer> taken = new HashSet<>();
        for (int key : keys) {
            ModelFloor floor = dungeon.floors.get(p.floor);
            if (p.end != 0) {
                return p;
            }
            if (key == 5) {
                p.health += dungeon.rules[5];
                if (p.health > dungeon.rules[4]) {
                    p.health = dungeon.rules[4];
                }
                p.score--;
            } else if (key == 4 && p.room != floor.stairs || key < 4 && !floor.door(p.room, key)) {
                return p;
            } else if (key == 4 && p.floor == 2) {
                p.end = 2;
                p.score += 20;
            } else if (key == 4) {
                p.room = floor.stairs;
                p.floor++;
            } else {
                p.room = ModelFloor.beside(p.room, key);
                int id = 100 * p.floor + p.room;
                if (beaten.add(id)) {
                    p.score += floor.monster[p.room];
                    p.health -= floor.monster[p.room];
                }
                if (p.health <= 0) {
                    p.end = 1;
                } else if (floor.treasure.contains(p.room) && taken.add(id)) {
                    p.score += 5;
                }
            }
            p.turns++;
        }
        return p;
    }

    List<Integer> order(int packs) {
        List<Integer> order = new ArrayList<>();
        int left = packs;
        while (left != 0) {
            int next = -1;
            for (int i = packNeeds.size() - 1; i >= 0; i--) {
                boolean stand = true;
                for (int j = 0; j < packNeeds.size(); j++) {
                    stand &= (packNeeds.get(i) >> j & 1) == 0 || order.contains(j);
                }
                next = (left >> i & 1) == 1 && stand ? i : next;
            }
            if (next < 0) {
                return null;
            }
            order.add(next);
            left -= 1 << next;
        }
        return order;
    }

    private int[] rules(List<Integer> order) {
        int[] rules = FIRST.clone();
        for (int pack : order) {
            for (int[] change : packChanges.get(pack)) {
                int rule = change[0];
                rules[rule] = change[2] + (change[1] == 1 ? 0 : rules[rule]);
                rules[rule] = rules[rule] < LEAST[rule] ? LEAST[rule] : rules[rule];
                rules[rule] = rules[rule] > MOST[rule] ? MOST[rule] : rules[rule];
            }
        }
        return rules;
    }

    /** The six numbers and the seed of today's dungeon; null if there is none. */
    int[] identityToday() {
        if (days.isEmpty()) {
            return null;
        }
        int[] day = days.get(days.size() - 1);
        List<Integer> order = order(day[1]);
        if (order == null) {
            return null;
        }
        int[] identity = java.util.Arrays.copyOf(rules(order), 7);
        identity[6] = day[0];
        return identity;
    }

    private int numberOf(int[] identity) {
        for (int i = 0; i < dungeons.size(); i++) {
            if (java.util.Arrays.equals(dungeons.get(i).rules, identity)) {
                return i;
            }
        }
        return -1;
    }

    private List<Integer> ranking(int dungeon) {
        List<Integer> ranking = new ArrayList<>();
        for (ModelRun run : runs) {
            if (run.dungeon == dungeon && run.verdict == -1) {
                ranking.add(run.number);
            }
        }
        Comparator<Integer> byScore = Comparator.comparing(i -> -scoreOf(i));
        ranking.sort(byScore.thenComparing(i -> runs.get(i).keys.size()).thenComparing(i -> i));
        return ranking;
    }

    private void place(int dungeon, int floor, int room) {
        index(dungeon, dungeons.size());
        index(floor, 3);
        index(room, 16);
    }

    private static void index(int number, int count) {
        if (number < 0 || number >= count) {
            throw new IndexOutOfBoundsException();
        }
    }

    private static void argument(boolean right) {
        if (!right) {
            throw new IllegalArgumentException();
        }
    }

    private void set(int packs) {
        argument(packs >= 0 && packs < 1 << packNeeds.size());
    }
}
