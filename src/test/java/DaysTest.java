/** Promises 6 to 8, 16 and 18: days, the draft, and today's dungeon. */
public final class DaysTest {
    private static final Class<IndexOutOfBoundsException> INDEX = IndexOutOfBoundsException.class;
    private static final Class<IllegalArgumentException> ARGUMENT = IllegalArgumentException.class;
    private static final Class<IllegalStateException> STATE = IllegalStateException.class;
    private static final int[] WRONG = {-1, Integer.MIN_VALUE, Integer.MAX_VALUE};

    public static void main(String[] args) {
        opening();
        openingWrongly();
        draft();
        draftIsHandedIn();
        dungeonToday();
        dungeonTodayByHealthAndHealing();
        Checks.end();
    }

    private static void opening() {
        RuleCrypts x = new RuleCrypts();
        for (int day = 0; day < 30; day++) {
            Checks.due("6: open", x.open(day == 0 ? 0 : 65535, 0), day);
            Checks.due("16: today()", x.today(), day);
        }
        Checks.throwsDue("6: a 31st day", STATE, () -> x.open(0, 0));
        Checks.throwsDue("6: a 31st day, no seed", ARGUMENT, () -> x.open(-1, 0));
        Checks.throwsDue("6: a 31st day, another bit", ARGUMENT, () -> x.open(0, 1));
        Checks.due("16: today() after it", x.today(), 29);
    }

    private static void openingWrongly() {
        RuleCrypts x = new RuleCrypts();
        x.pack();
        x.pack();
        x.setNeeds(0, 2);
        Checks.throwsDue("6: seed 65536", ARGUMENT, () -> x.open(65536, 0));
        for (int wrong : WRONG) {
            Checks.throwsDue("6: no seed", ARGUMENT, () -> x.open(wrong, 0));
            Checks.throwsDue("6: another bit", ARGUMENT, () -> x.open(0, wrong));
        }
        Checks.throwsDue("6: another bit", ARGUMENT, () -> x.open(0, 4));
        Checks.throwsDue("6: another bit, not possible", ARGUMENT, () -> x.open(0, 5));
        Checks.throwsDue("6: not possible", STATE, () -> x.open(0, 1));
        Checks.throwsDue("6: not possible, no seed", ARGUMENT, () -> x.open(65536, 1));
        Checks.due("16: today() after them", x.today(), -1);
        Checks.due("6: possible", x.open(0, 3), 0);
        Checks.throwsDue("6: not possible", STATE, () -> x.open(7, 1));
        Checks.due("16: today() after it", x.today(), 0);
        x.handIn(0, 0);
        Checks.due("6: the day before stands", x.dungeonToday(), 0);
    }

    private static void draft() {
        RuleCrypts x = new RuleCrypts();
        for (int i = 0; i < 60; i++) {
            Checks.due("7: key", x.key(i % 6), i + 1);
        }
        Checks.throwsDue("7: a 61st key", STATE, () -> x.key(0));
        Checks.throwsDue("7: a 61st key, no key", ARGUMENT, () -> x.key(6));
        Checks.due("8: wipe", x.wipe(), 60);
        Checks.due("8: wipe again", x.wipe(), 0);
        Checks.throwsDue("7: key 6", ARGUMENT, () -> x.key(6));
        for (int wrong : WRONG) {
            Checks.throwsDue("7: no key", ARGUMENT, () -> x.key(wrong));
        }
        Checks.due("7: after them", x.key(5), 1);
        Checks.due("8: wipe", x.wipe(), 1);
    }

    private static void draftIsHandedIn() {
        RuleCrypts x = new RuleCrypts();
        x.key(5);
        x.key(5);
        Checks.throwsDue("9: no dungeon of today", STATE, () -> x.handIn(0, -2));
        x.open(3, 0);
        Checks.throwsDue("9: no player", INDEX, () -> x.handIn(8, -2));
        Checks.due("7: the draft stands", x.key(5), 3);
        x.handIn(0, -3);
        Checks.due("8: the draft is empty", x.wipe(), 0);
        Checks.due("28: its keys are the run's", x.scoreOf(0), -3);
        x.key(5);
        x.key(4);
        x.wipe();
        Checks.due("28: later keys are not", x.scoreOf(0), -3);
    }

    private static void dungeonToday() {
        RuleCrypts x = new RuleCrypts();
        x.pack();
        x.pack();
        x.open(9, 1);
        Checks.due("18: no run had it", x.dungeonToday(), -1);
        x.handIn(0, 0);
        Checks.due("18: a run had it", x.dungeonToday(), 0);
        x.open(10, 1);
        Checks.due("18: another seed", x.dungeonToday(), -1);
        x.handIn(0, 0);
        Checks.due("18: the second one", x.dungeonToday(), 1);
        x.open(9, 0);
        Checks.due("18: another set, the same numbers", x.dungeonToday(), 0);
        x.open(9, 1);
        Checks.due("18: the first one again", x.dungeonToday(), 0);
        x.setNeeds(0, 2);
        Checks.due("18: not possible any more", x.dungeonToday(), -1);
        Checks.throwsDue("9: not possible any more", STATE, () -> x.handIn(0, 0));
        x.setNeeds(0, 0);
        Checks.due("18: possible again", x.dungeonToday(), 0);
        x.change(1, 0, true, 9);
        Checks.due("18: a pack that is not in the set", x.dungeonToday(), 0);
        x.change(0, 0, true, 4);
        Checks.due("18: another rule", x.dungeonToday(), -1);
        Checks.due("9: had by a run", x.handIn(0, 0), 2);
        Checks.due("18: had by a run", x.dungeonToday(), 2);
        x.mend(0);
        Checks.due("18: mended", x.dungeonToday(), 0);
        x.change(0, 0, true, 3);
        Checks.due("18: a change that changes nothing", x.dungeonToday(), 0);
        Checks.due("17: dungeons()", x.dungeons(), 3);
        x.mend(0);
        x.change(0, 0, false, 1);
        Checks.due("18: the same numbers by another change", x.dungeonToday(), 2);
    }

    /** Rules that do not show in the rooms make another dungeon all the same. */
    private static void dungeonTodayByHealthAndHealing() {
        RuleCrypts x = new RuleCrypts();
        x.pack();
        x.open(9, 1);
        x.handIn(0, 0);
        for (int rule = 0; rule < 6; rule++) {
            x.change(0, rule, false, 1);
            Checks.due("18: rule " + rule + " is another one", x.dungeonToday(), -1);
            x.handIn(0, 0);
            Checks.due("18: rule " + rule + " makes another one", x.dungeonToday(), rule + 1);
            x.mend(0);
            Checks.due("18: rule " + rule + " is mended", x.dungeonToday(), 0);
        }
    }
}
