/** Promises 1 to 5 and 11 to 15: packs, their changes and needs, orders and rules. */
public final class PacksTest {
    private static final Class<IndexOutOfBoundsException> INDEX = IndexOutOfBoundsException.class;
    private static final Class<IllegalArgumentException> ARGUMENT = IllegalArgumentException.class;
    private static final Class<IllegalStateException> STATE = IllegalStateException.class;

    private static final int[] FIRST = Crypts.FIRST;
    private static final int[] LEAST = Crypts.LEAST;
    private static final int[] MOST = Crypts.MOST;
    private static final int[] WRONG = {-1, Integer.MIN_VALUE, Integer.MAX_VALUE};

    public static void main(String[] args) {
        newObject();
        packs();
        changes();
        changesOutOfRange();
        mending();
        needs();
        setsWithOtherBits();
        possibleSets();
        orders();
        rules();
        Checks.end();
    }

    private static void newObject() {
        RuleCrypts x = new RuleCrypts();
        Checks.due("1: packs()", x.packs(), 0);
        Checks.due("1: today()", x.today(), -1);
        Checks.due("1: dungeons()", x.dungeons(), 0);
        Checks.due("1: dungeonToday()", x.dungeonToday(), -1);
        Checks.due("1: runs()", x.runs(), 0);
        Checks.due("1: wipe()", x.wipe(), 0);
        for (int player = 0; player < 8; player++) {
            Checks.due("1: glory", x.glory(player), 0);
        }
    }

    private static void packs() {
        RuleCrypts x = new RuleCrypts();
        for (int i = 0; i < 10; i++) {
            Checks.due("2: pack()", x.pack(), i);
            Checks.due("11: packs()", x.packs(), i + 1);
            Checks.due("12: changes of a new pack", x.changes(i), 0);
            Checks.due("5: needs of a new pack", x.setNeeds(i, 0), 0);
        }
        Checks.throwsDue("2: an 11th pack", STATE, x::pack);
        Checks.due("11: packs() after it", x.packs(), 10);
        Checks.throwsDue("12: changes(10)", INDEX, () -> x.changes(10));
        for (int wrong : WRONG) {
            Checks.throwsDue("12: changes of no pack", INDEX, () -> x.changes(wrong));
        }
    }

    private static void changes() {
        RuleCrypts x = Crypts.withPacks(2);
        for (int i = 1; i <= 4; i++) {
            Checks.due("3: change", x.change(1, 0, false, 1), i);
            Checks.due("12: changes(1)", x.changes(1), i);
        }
        Checks.due("12: changes(0)", x.changes(0), 0);
        Checks.throwsDue("3: a 5th change", STATE, () -> x.change(1, 0, false, 1));
        Checks.throwsDue("3: a 5th change out of range", ARGUMENT, () -> x.change(1, 0, false, 21));
        Checks.throwsDue("3: a 5th change of no rule", INDEX, () -> x.change(1, 6, false, 21));
        Checks.due("12: changes(1) after it", x.changes(1), 4);
        Checks.due("15: rules after it", x.ruleOf(2, 0), 7);
    }

    private static void changesOutOfRange() {
        RuleCrypts x = Crypts.withPacks(1);
        for (int r = 0; r < 6; r++) {
            int rule = r;
            Checks.throwsDue("3: set below", ARGUMENT, () -> x.change(0, rule, true, LEAST[rule] - 1));
            Checks.throwsDue("3: set above", ARGUMENT, () -> x.change(0, rule, true, MOST[rule] + 1));
            Checks.throwsDue("3: add below", ARGUMENT, () -> x.change(0, rule, false, -21));
            Checks.throwsDue("3: add above", ARGUMENT, () -> x.change(0, rule, false, 21));
            Checks.due("12: nothing was changed", x.changes(0), 0);
            Checks.due("3: set the least", x.change(0, rule, true, LEAST[rule]), 1);
            Checks.due("15: the least", x.ruleOf(1, rule), LEAST[rule]);
            Checks.due("3: set the most", x.change(0, rule, true, MOST[rule]), 2);
            Checks.due("15: the most", x.ruleOf(1, rule), MOST[rule]);
            Checks.due("3: add the least", x.change(0, rule, false, -20), 3);
            Checks.due("3: add the most", x.change(0, rule, false, 20), 4);
            for (int i = 3; i >= 0; i--) {
                Checks.due("4: mend", x.mend(0), i);
            }
        }
        for (int wrong : WRONG) {
            Checks.throwsDue("3: no pack", INDEX, () -> x.change(wrong, 0, true, 0));
            Checks.throwsDue("3: no rule", INDEX, () -> x.change(0, wrong, true, 0));
            Checks.throwsDue("3: no number to set", ARGUMENT, () -> x.change(0, 2, true, wrong));
        }
        Checks.throwsDue("3: no number to add", ARGUMENT, () -> x.change(0, 2, false, Integer.MIN_VALUE));
        Checks.throwsDue("3: no number to add", ARGUMENT, () -> x.change(0, 2, false, Integer.MAX_VALUE));
        Checks.throwsDue("3: pack 1 of one", INDEX, () -> x.change(1, 0, true, 0));
        Checks.throwsDue("3: rule 6", INDEX, () -> x.change(0, 6, true, 100));
    }

    private static void mending() {
        RuleCrypts x = Crypts.withPacks(2);
        Checks.throwsDue("4: nothing to mend", STATE, () -> x.mend(0));
        x.change(0, 0, true, 10);
        x.change(0, 0, true, 12);
        x.change(1, 0, true, 1);
        Checks.due("4: mend(0)", x.mend(0), 1);
        Checks.due("15: the change before it stands", x.ruleOf(1, 0), 10);
        Checks.due("12: changes(1)", x.changes(1), 1);
        x.change(0, 0, false, 3);
        Checks.due("15: a change in place of the mended one", x.ruleOf(1, 0), 13);
        Checks.due("4: mend(0)", x.mend(0), 1);
        Checks.due("4: mend(0)", x.mend(0), 0);
        Checks.throwsDue("4: nothing left to mend", STATE, () -> x.mend(0));
        Checks.due("15: the first number", x.ruleOf(1, 0), 3);
        Checks.throwsDue("4: pack 2 of two", INDEX, () -> x.mend(2));
        for (int wrong : WRONG) {
            Checks.throwsDue("4: no pack", INDEX, () -> x.mend(wrong));
        }
    }

    private static void needs() {
        RuleCrypts x = Crypts.withPacks(3);
        Checks.due("5: setNeeds", x.setNeeds(0, 6), 0);
        Checks.due("5: setNeeds", x.setNeeds(0, 2), 6);
        Checks.throwsDue("5: itself", ARGUMENT, () -> x.setNeeds(0, 1));
        Checks.throwsDue("5: itself among others", ARGUMENT, () -> x.setNeeds(1, 7));
        Checks.throwsDue("5: a pack that is not there", ARGUMENT, () -> x.setNeeds(0, 8));
        Checks.throwsDue("5: the bit 31", ARGUMENT, () -> x.setNeeds(0, Integer.MIN_VALUE));
        Checks.throwsDue("5: all bits", ARGUMENT, () -> x.setNeeds(0, -1));
        Checks.throwsDue("5: pack 3 of three", INDEX, () -> x.setNeeds(3, 0));
        Checks.throwsDue("5: no pack, other bits", INDEX, () -> x.setNeeds(-1, -1));
        Checks.due("5: setNeeds", x.setNeeds(0, 0), 2);
        Checks.due("5: a circle is no fault", x.setNeeds(1, 4), 0);
        Checks.due("5: a circle is no fault", x.setNeeds(2, 2), 0);
        Checks.due("5: it is told", x.setNeeds(2, 0), 2);
    }

    private static void setsWithOtherBits() {
        RuleCrypts x = Crypts.withPacks(2);
        int[] sets = {4, 5, 7, 1 << 10, 1 << 30, Integer.MIN_VALUE, -1, Integer.MAX_VALUE};
        for (int set : sets) {
            Checks.throwsDue("13: another bit", ARGUMENT, () -> x.isPossible(set));
            Checks.throwsDue("14: another bit", ARGUMENT, () -> x.orderAt(set, 0));
            Checks.throwsDue("15: another bit", ARGUMENT, () -> x.ruleOf(set, 0));
            Checks.throwsDue("15: another bit, no rule", INDEX, () -> x.ruleOf(set, 6));
        }
        for (int set = 0; set < 4; set++) {
            Checks.due("13: without needs", x.isPossible(set), true);
        }
        x.setNeeds(0, 2);
        Checks.throwsDue("14: not possible", STATE, () -> x.orderAt(1, 0));
        Checks.throwsDue("14: not possible, place below 0", ARGUMENT, () -> x.orderAt(1, -1));
        Checks.throwsDue("14: place below 0", ARGUMENT, () -> x.orderAt(3, Integer.MIN_VALUE));
        Checks.throwsDue("15: not possible", STATE, () -> x.ruleOf(1, 0));
        Checks.throwsDue("15: not possible, no rule", INDEX, () -> x.ruleOf(1, -1));
    }

    private static void possibleSets() {
        RuleCrypts x = Crypts.withPacks(4);
        x.setNeeds(0, 2);
        x.setNeeds(1, 4);
        boolean[] due = {true, false, false, false, true, false, true, true};
        for (int set = 0; set < 8; set++) {
            Checks.due("13: isPossible(" + set + ")", x.isPossible(set), due[set]);
            Checks.due("13: isPossible with pack 3", x.isPossible(set | 8), due[set]);
        }
        x.setNeeds(2, 1);
        for (int set = 1; set < 8; set++) {
            Checks.due("13: isPossible(" + set + ") in a circle", x.isPossible(set), false);
        }
        Checks.due("13: the others", x.isPossible(8), true);
        Checks.due("13: none", x.isPossible(0), true);
    }

    private static void orders() {
        RuleCrypts x = Crypts.withPacks(10);
        for (int place = 0; place < 10; place++) {
            Checks.due("14: without needs", x.orderAt(1023, place), place);
        }
        Checks.due("14: not so many", x.orderAt(1023, 10), -1);
        Checks.due("14: not so many", x.orderAt(1023, Integer.MAX_VALUE), -1);
        Checks.due("14: of none", x.orderAt(0, 0), -1);
        x.setNeeds(0, 1 << 5);
        x.setNeeds(2, 1 << 0 | 1 << 9);
        x.setNeeds(5, 1 << 3);
        int[] due = {1, 3, 4, 5, 0, 6, 7, 8, 9, 2};
        for (int place = 0; place < 10; place++) {
            Checks.due("14: with needs, place " + place, x.orderAt(1023, place), due[place]);
        }
        for (int i = 0; i < 9; i++) {
            x.setNeeds(i, 1 << i + 1);
        }
        for (int place = 0; place < 10; place++) {
            Checks.due("14: a chain, place " + place, x.orderAt(1023, place), 9 - place);
        }
        Checks.due("14: a part of the chain", x.orderAt(0x380, 0), 9);
        Checks.due("14: a part of the chain", x.orderAt(0x380, 2), 7);
        Checks.due("14: a part of the chain", x.orderAt(0x380, 3), -1);
    }

    private static void rules() {
        RuleCrypts x = Crypts.withPacks(3);
        for (int rule = 0; rule < 6; rule++) {
            Checks.due("15: at first", x.ruleOf(0, rule), FIRST[rule]);
            Checks.due("15: packs without changes", x.ruleOf(7, rule), FIRST[rule]);
        }
        for (int wrong : WRONG) {
            Checks.throwsDue("15: no rule", INDEX, () -> x.ruleOf(0, wrong));
        }
        // Each change is kept in the range by itself: 20 more, then 5 less.
        x.change(0, 0, false, 20);
        x.change(0, 0, false, -5);
        Checks.due("15: up to the end, and down", x.ruleOf(1, 0), 15);
        x.change(1, 0, false, -20);
        x.change(1, 0, false, 2);
        Checks.due("15: down to the end, and up", x.ruleOf(2, 0), 2);
        Checks.due("15: 0 before 1", x.ruleOf(3, 0), 2);
        x.setNeeds(0, 2);
        Checks.due("15: 1 before 0", x.ruleOf(3, 0), 15);
        x.change(2, 0, true, 7);
        Checks.due("15: the set number", x.ruleOf(4, 0), 7);
        Checks.due("15: set last", x.ruleOf(7, 0), 7);
        x.setNeeds(1, 4);
        Checks.due("15: set first", x.ruleOf(7, 0), 15);
        for (int rule = 1; rule < 6; rule++) {
            Checks.due("15: the others stay", x.ruleOf(7, rule), FIRST[rule]);
        }
        x.change(2, 2, false, -20);
        x.change(2, 4, false, -20);
        x.change(2, 5, false, 20);
        Checks.due("15: strength, at least 1", x.ruleOf(4, 2), 1);
        Checks.due("15: health, at least 1", x.ruleOf(4, 4), 1);
        Checks.due("15: healing, at most 9", x.ruleOf(4, 5), 9);
    }
}
