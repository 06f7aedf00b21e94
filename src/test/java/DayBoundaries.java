/** Boundaries of the promises 6 to 8, 16 to 18: days, the draft, and which dungeon is today's. */
final class DayBoundaries {
    private static final String TWICE =
            "If several exceptions apply, the one that is named first in the throws clause is thrown";
    private static final String SIXTY_RESTS = ".".repeat(60);

    private DayBoundaries() {
    }

    static void addTo(Boundaries all) {
        addOpening(all);
        addDraft(all);
        addToday(all);
    }

    private static void addOpening(Boundaries all) {
        all.add(6, "Days are numbered from 0 on; at most 30 are opened", DayBoundaries::thirtyDays);
        all.add(6, "- `seed`: 0 to 65535", DayBoundaries::leastAndMostSeed);
        all.add(6, "- `packs`: a set of packs that there are, as bits", DayBoundaries::emptyAndFullSet);
        all.add(6, "A day has a seed and a set of packs that is possible then", DayBoundaries::possibleThen);
        all.add(6, "Throws `IllegalArgumentException` if seed is out of range, or packs has another bit",
                DayBoundaries::seedOutOfRange);
        all.add(6, "Throws `IllegalArgumentException` if seed is out of range, or packs has another bit",
                DayBoundaries::openWithNoPacks);
        all.add(6, "Throws `IllegalStateException` if the set is not possible, or 30 were opened",
                DayBoundaries::openNotPossible);
        all.add(6, "Throws `IllegalStateException` if the set is not possible, or 30 were opened",
                DayBoundaries::dayThirtyOne);
        all.add(6, TWICE, DayBoundaries::openRefusedTwice);
    }

    private static void addDraft(Boundaries all) {
        all.add(7, "- `key`: 0 to 5", DayBoundaries::sixKeys);
        all.add(7, "Returns how many it has then.", DayBoundaries::sixtyKeys);
        all.add(7, "Throws `IllegalArgumentException` if key is out of range", DayBoundaries::keyOutOfRange);
        all.add(7, "Throws `IllegalStateException` if it has 60", DayBoundaries::keySixtyOne);
        all.add(7, TWICE, DayBoundaries::keyRefusedTwice);
        all.add(8, "Empties the draft.", DayBoundaries::emptied);
        all.add(8, "Returns how many keys it had.", DayBoundaries::wipedNoneToSixty);
    }

    private static void addToday(Boundaries all) {
        all.add(16, "Returns the number of today; -1 if no day was opened.", DayBoundaries::noDay);
        all.add(16, "the latest one is today", DayBoundaries::latestDay);
        all.add(17, "Returns how many dungeons were had.", DayBoundaries::noneToTwentyHad);
        all.add(17, "Dungeons are numbered from 0 on, as they are first had by a run; at most 20 are had.",
                DayBoundaries::numberedAsHad);
        all.add(18, "Returns the number; -1 if no run had it, or there is none.", DayBoundaries::notHad);
        all.add(18, "Returns the number; -1 if no run had it, or there is none.", DayBoundaries::noneToday);
        all.add(18, "there is none as long as its set is not possible", DayBoundaries::asLongAsNotPossible);
        all.add(18, "The dungeon of today is that by its seed and the rules of its set as the packs are now",
                DayBoundaries::asThePacksAreNow);
        all.add(18, "Two dungeons are the same if their seeds and all six numbers are.", DayBoundaries::same);
        all.add(18, "A pack that is mended makes another dungeon from then on", DayBoundaries::mended);
        all.add(18, "at most 20 are had", DayBoundaries::lastOfTwenty);
    }

    private static RuleCrypts withDays(int count) {
        RuleCrypts x = new RuleCrypts();
        for (int day = 0; day < count; day++) {
            x.open(day, 0);
        }
        return x;
    }

    private static void thirtyDays() {
        RuleCrypts x = new RuleCrypts();
        for (int day = 0; day < 30; day++) {
            Checks.due("open", x.open(0, 0), day);
        }
    }

    private static void leastAndMostSeed() {
        RuleCrypts x = new RuleCrypts();
        Checks.due("the seed 0", x.open(0, 0), 0);
        Checks.due("its run", x.handIn(0, 0), 0);
        Checks.due("the seed 65535", x.open(65535, 0), 1);
        Checks.due("its run", x.handIn(0, 0), 1);
        Checks.due("each has its dungeon", x.dungeonOf(1), 1);
        Checks.due("the stairs by the seed 0", x.stairs(0, 0), 14);
        Checks.due("the stairs by the seed 65535", x.stairs(1, 0), 15);
    }

    private static void emptyAndFullSet() {
        Checks.due("the empty set of none", new RuleCrypts().open(1, 0), 0);
        RuleCrypts x = Crypts.chain(10);
        Checks.due("the empty set", x.open(1, 0), 0);
        Checks.due("all ten", x.open(1, 1023), 1);
    }

    private static RuleCrypts needy() {
        RuleCrypts x = Crypts.withPacks(2);
        x.setNeeds(0, 2);
        x.open(5, 3);
        x.handIn(0, 0);
        x.key(5);
        return x;
    }

    private static void possibleThen() {
        RuleCrypts x = needy();
        Checks.throwsDue("not possible yet", Crypts.STATE, () -> x.open(5, 1));
        x.setNeeds(0, 0);
        Checks.due("possible then", x.open(5, 1), 1);
        x.setNeeds(0, 2);
        Checks.due("it stays a day when it is not possible any more", x.today(), 1);
        Checks.throwsDue("but is not opened again", Crypts.STATE, () -> x.open(5, 1));
    }

    private static void seedOutOfRange() {
        int[] seeds = {-1, 65536, 65537, 1 << 17, -65536, Integer.MIN_VALUE, Integer.MAX_VALUE};
        for (int seed : seeds) {
            Crypts.refused("open(" + seed + ", 0)", Crypts.ARGUMENT, DayBoundaries::needy, x -> x.open(seed, 0));
        }
    }

    private static void openWithNoPacks() {
        for (int packs : Crypts.otherBits(2)) {
            Crypts.refused("open(0, " + packs + ")", Crypts.ARGUMENT, DayBoundaries::needy, x -> x.open(0, packs));
        }
        Crypts.refused("open(0, 1) of none", Crypts.ARGUMENT, RuleCrypts::new, x -> x.open(0, 1));
        Crypts.refused("open(0, 1024) of ten", Crypts.ARGUMENT, () -> Crypts.withPacks(10),
                x -> x.open(0, 1024));
    }

    private static void openNotPossible() {
        Crypts.refused("a pack without what it needs", Crypts.STATE, DayBoundaries::needy, x -> x.open(0, 1));
        Crypts.refused("a circle", Crypts.STATE, DayBoundaries::circle, x -> x.open(0, 3));
    }

    private static RuleCrypts circle() {
        RuleCrypts x = needy();
        x.setNeeds(1, 1);
        return x;
    }

    private static void dayThirtyOne() {
        Checks.due("the 30th day", withDays(29).open(0, 0), 29);
        Crypts.refused("a 31st day", Crypts.STATE, () -> withDays(30), x -> x.open(0, 0));
        RuleCrypts x = withDays(30);
        Checks.throwsDue("a 31st day", Crypts.STATE, () -> x.open(0, 0));
        Checks.throwsDue("a 31st day again", Crypts.STATE, () -> x.open(1, 0));
        Checks.due("today()", x.today(), 29);
    }

    private static void openRefusedTwice() {
        Checks.throwsDue("no seed, not possible", Crypts.ARGUMENT, () -> needy().open(-1, 1));
        Checks.throwsDue("another bit, not possible", Crypts.ARGUMENT, () -> needy().open(0, 5));
        Checks.throwsDue("no seed, 30 days", Crypts.ARGUMENT, () -> withDays(30).open(65536, 0));
        Checks.throwsDue("another bit, 30 days", Crypts.ARGUMENT, () -> withDays(30).open(0, 1));
        Checks.throwsDue("no seed, another bit", Crypts.ARGUMENT, () -> needy().open(65536, 4));
    }

    private static void sixKeys() {
        RuleCrypts x = new RuleCrypts();
        for (int key = 0; key < 6; key++) {
            Checks.due("key(" + key + ")", x.key(key), key + 1);
        }
    }

    private static void sixtyKeys() {
        RuleCrypts x = new RuleCrypts();
        for (int i = 1; i <= 60; i++) {
            Checks.due("key", x.key(5), i);
        }
        x.open(0, 0);
        x.handIn(0, -60);
        Checks.due("all sixty are the run's", x.scoreOf(0), -60);
        Checks.due("the first one behind it", x.key(5), 1);
    }

    private static RuleCrypts drafted(String keys) {
        RuleCrypts x = withDays(1);
        Crypts.press(x, keys);
        return x;
    }

    private static void keyOutOfRange() {
        for (int key : Crypts.beyond(6)) {
            Crypts.refused("key(" + key + ") on none", Crypts.ARGUMENT, () -> drafted(""), x -> x.key(key));
            Crypts.refused("key(" + key + ") on two", Crypts.ARGUMENT, () -> drafted(".."), x -> x.key(key));
        }
    }

    private static void keySixtyOne() {
        for (int i = 0; i < 6; i++) {
            int key = i;
            Crypts.refused("key(" + key + ") on sixty", Crypts.STATE, () -> drafted(SIXTY_RESTS), x -> x.key(key));
        }
        RuleCrypts x = drafted(SIXTY_RESTS);
        Checks.throwsDue("one more", Crypts.STATE, () -> x.key(5));
        x.wipe();
        Checks.due("wiped, it has room", x.key(5), 1);
        RuleCrypts y = drafted(SIXTY_RESTS);
        y.handIn(0, 0);
        Checks.due("handed in, it has room", y.key(5), 1);
    }

    private static void keyRefusedTwice() {
        for (int key : Crypts.beyond(6)) {
            Checks.throwsDue("key(" + key + ") on sixty", Crypts.ARGUMENT, () -> drafted(SIXTY_RESTS).key(key));
        }
    }

    private static void emptied() {
        RuleCrypts x = drafted(SIXTY_RESTS);
        x.wipe();
        x.handIn(0, 0);
        Checks.due("no key is left for a run", x.scoreOf(0), 0);
        Checks.due("whose turns all can be", x.judge(0), -1);
    }

    private static void wipedNoneToSixty() {
        Checks.due("none", new RuleCrypts().wipe(), 0);
        RuleCrypts x = drafted("u");
        Checks.due("one", x.wipe(), 1);
        Checks.due("none any more", x.wipe(), 0);
        Crypts.press(x, SIXTY_RESTS);
        Checks.due("sixty", x.wipe(), 60);
        Checks.due("none any more", x.wipe(), 0);
    }

    private static void noDay() {
        RuleCrypts x = Crypts.chain(2);
        Checks.due("of a new object", new RuleCrypts().today(), -1);
        Checks.throwsDue("a day that is refused", Crypts.STATE, () -> x.open(0, 1));
        Checks.due("is no day", x.today(), -1);
        x.open(0, 2);
        Checks.due("the first day", x.today(), 0);
    }

    private static void latestDay() {
        RuleCrypts x = new RuleCrypts();
        for (int day = 0; day < 30; day++) {
            x.open(day, 0);
            Checks.due("today()", x.today(), day);
        }
        Checks.throwsDue("a 31st day", Crypts.STATE, () -> x.open(30, 0));
        Checks.due("the 30th is today", x.today(), 29);
        x.handIn(0, 0);
        RuleCrypts same = new RuleCrypts();
        same.open(29, 0);
        same.handIn(0, 0);
        Checks.due("with its own seed", Crypts.doors(x, 0, 0), Crypts.doors(same, 0, 0));
    }

    private static RuleCrypts withDungeons(int count) {
        RuleCrypts x = Crypts.withPacks(2);
        for (int seed = 0; seed < count; seed++) {
            x.open(seed, 0);
            x.handIn(0, 0);
        }
        return x;
    }

    private static void noneToTwentyHad() {
        RuleCrypts x = new RuleCrypts();
        Checks.due("none", x.dungeons(), 0);
        for (int i = 0; i < 20; i++) {
            x.open(i, 0);
            Checks.due("a day alone has none", x.dungeons(), i);
            x.handIn(0, 0);
            Checks.due("a run has it", x.dungeons(), i + 1);
        }
        x.open(20, 0);
        Checks.throwsDue("a 21st", Crypts.STATE, () -> x.handIn(0, 0));
        Checks.due("twenty still", x.dungeons(), 20);
    }

    private static void numberedAsHad() {
        RuleCrypts x = new RuleCrypts();
        x.open(7, 0);
        x.open(8, 0);
        x.handIn(0, 0);
        Checks.due("the day 0 had none: the day 1 has the dungeon 0", x.dungeonOf(0), 0);
        x.open(7, 0);
        x.handIn(0, 0);
        Checks.due("the seed of the day 0 has the dungeon 1", x.dungeonOf(1), 1);
        x.open(8, 0);
        x.handIn(0, 0);
        Checks.due("had again, it keeps its number", x.dungeonOf(2), 0);
        Checks.due("two dungeons", x.dungeons(), 2);
    }

    private static void notHad() {
        RuleCrypts x = withDays(1);
        Checks.due("no run had it", x.dungeonToday(), -1);
        Checks.throwsDue("a run that is refused", Crypts.INDEX, () -> x.handIn(8, 0));
        Checks.due("has it not", x.dungeonToday(), -1);
        x.handIn(0, 0);
        Checks.due("a run had it", x.dungeonToday(), 0);
        x.open(1, 0);
        Checks.due("the next day's no run had", x.dungeonToday(), -1);
    }

    private static void noneToday() {
        Checks.due("of a new object", new RuleCrypts().dungeonToday(), -1);
        RuleCrypts x = Crypts.withPacks(1);
        Checks.due("without a day", x.dungeonToday(), -1);
        x.change(0, 0, true, 0);
        Checks.due("with a pack, without a day", x.dungeonToday(), -1);
    }

    private static void asLongAsNotPossible() {
        RuleCrypts x = needy();
        Checks.due("possible", x.dungeonToday(), 0);
        x.setNeeds(1, 1);
        Checks.due("a circle", x.dungeonToday(), -1);
        Checks.throwsDue("a circle", Crypts.STATE, () -> x.handIn(0, 0));
        x.setNeeds(1, 0);
        Checks.due("possible again", x.dungeonToday(), 0);
        x.pack();
        x.setNeeds(0, 6);
        Checks.due("without what it needs", x.dungeonToday(), -1);
        x.setNeeds(0, 0);
        Checks.due("possible again", x.dungeonToday(), 0);
    }

    private static void asThePacksAreNow() {
        RuleCrypts x = Crypts.withPacks(3);
        x.open(5, 3);
        x.handIn(0, 0);
        x.change(2, 0, true, 20);
        Checks.due("a pack that is not in the set", x.dungeonToday(), 0);
        x.change(0, 0, false, -20);
        Checks.due("a pack of the set", x.dungeonToday(), -1);
        x.change(1, 0, true, 3);
        Checks.due("its change undone by a later pack", x.dungeonToday(), 0);
        x.setNeeds(0, 2);
        Checks.due("which comes earlier by a need", x.dungeonToday(), -1);
        x.handIn(0, 0);
        Checks.due("had by a run", x.dungeonToday(), 1);
        x.setNeeds(0, 0);
        Checks.due("as it was", x.dungeonToday(), 0);
    }

    private static void same() {
        RuleCrypts x = Crypts.withPacks(2);
        x.open(65535, 1);
        x.handIn(0, 0);
        for (int rule = 0; rule < 6; rule++) {
            x.change(0, rule, false, 1);
            Checks.due("another number of the rule " + rule, x.dungeonToday(), -1);
            x.mend(0);
            x.change(0, rule, true, Crypts.FIRST[rule]);
            Checks.due("the same number by a change", x.dungeonToday(), 0);
            x.mend(0);
        }
        x.open(65534, 1);
        Checks.due("another seed", x.dungeonToday(), -1);
        x.open(65535, 2);
        Checks.due("another set", x.dungeonToday(), 0);
        x.open(65535, 0);
        Checks.due("the empty set", x.dungeonToday(), 0);
        Checks.due("a run in it", x.dungeonOf(x.handIn(0, 0)), 0);
    }

    private static void mended() {
        RuleCrypts x = Crypts.withPacks(1);
        x.change(0, 0, true, 0);
        x.open(0, 1);
        x.handIn(0, 0);
        String doors = Crypts.doors(x, 0, 0);
        x.mend(0);
        Checks.due("no run had the one from then on", x.dungeonToday(), -1);
        x.handIn(0, 0);
        Checks.due("it is another one", x.dungeonToday(), 1);
        Checks.due("grown by the mended pack", Crypts.doors(x, 1, 0), "ceea995b91cb5211");
        Checks.due("the one before stays", Crypts.doors(x, 0, 0), doors);
        Checks.due("and had no loops", doors, "ceea991991cb5211");
    }

    private static void lastOfTwenty() {
        RuleCrypts x = withDungeons(20);
        Checks.due("the 20th", x.dungeonToday(), 19);
        x.open(0, 0);
        Checks.due("the first", x.dungeonToday(), 0);
        x.open(20, 0);
        Checks.due("a 21st is not had", x.dungeonToday(), -1);
        Checks.throwsDue("and is not to be had", Crypts.STATE, () -> x.handIn(0, 0));
        Checks.due("it is not had behind that", x.dungeonToday(), -1);
    }
}
