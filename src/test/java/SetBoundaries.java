/** Boundaries of the promises 11 to 15: packs as they are, sets of them, their orders and their rules. */
final class SetBoundaries {
    private static final String TWICE =
            "If several exceptions apply, the one that is named first in the throws clause is thrown";

    private SetBoundaries() {
    }

    static void addTo(Boundaries all) {
        all.add(11, "Returns how many packs there are.", SetBoundaries::noneToTen);
        all.add(12, "Returns how many changes a pack has.", SetBoundaries::noneToFour);
        all.add(12, "Throws `IndexOutOfBoundsException` if there is no such pack", SetBoundaries::changesOfNoPack);
        addPossible(all);
        addOrders(all);
        addRules(all);
    }

    private static void addPossible(Boundaries all) {
        all.add(13, "A set of packs is told as bits", SetBoundaries::bits);
        all.add(13, "Tells whether a set of packs is possible.", SetBoundaries::emptyAndFullSet);
        all.add(13, "It is possible if each pack that one of it needs is in it, and the packs can be put in an order"
                + " in which each stands behind those that it needs", SetBoundaries::oneIsMissing);
        all.add(13, "It is possible if each pack that one of it needs is in it, and the packs can be put in an order"
                + " in which each stands behind those that it needs", SetBoundaries::circles);
        all.add(13, "Throws `IllegalArgumentException` if packs has another bit", SetBoundaries::possibleOfNoPacks);
        all.add(13, "- `packs`: a set of packs that there are, as bits", SetBoundaries::possibleOfAll);
    }

    private static void addOrders(Boundaries all) {
        all.add(14, "the order puts in each place the lowest pack whose needs stand already",
                SetBoundaries::lowestFirst);
        all.add(14, "the order puts in each place the lowest pack whose needs stand already",
                SetBoundaries::longestChain);
        all.add(14, "- `packs`: a set of packs that there are, as bits", SetBoundaries::orderOfAll);
        all.add(14, "- `place`: 0 for the first one", SetBoundaries::firstAndLastPlace);
        all.add(14, "Returns the pack; -1 if there are not so many.", SetBoundaries::notSoMany);
        all.add(14, "Throws `IllegalArgumentException` if packs has another bit, or place is below 0",
                SetBoundaries::orderOfNoPacks);
        all.add(14, "Throws `IllegalArgumentException` if packs has another bit, or place is below 0",
                SetBoundaries::placeBelow);
        all.add(14, "Throws `IllegalStateException` if the set is not possible", SetBoundaries::orderOfNone);
        all.add(14, TWICE, SetBoundaries::orderRefusedTwice);
    }

    private static void addRules(Boundaries all) {
        all.add(15, "Rules are numbers: 0 loops, 0 to 20, 3 at first", () -> rangeOf(0));
        all.add(15, "1 monsters, 0 to 20, 4 at first", () -> rangeOf(1));
        all.add(15, "2 strength, 1 to 9, 3 at first", () -> rangeOf(2));
        all.add(15, "3 treasures, 0 to 20, 3 at first", () -> rangeOf(3));
        all.add(15, "4 health, 1 to 50, 10 at first", () -> rangeOf(4));
        all.add(15, "5 healing, 0 to 9, 1 at first", () -> rangeOf(5));
        all.add(15, "a rule that would leave its range becomes the end of that", SetBoundaries::justTheEnd);
        all.add(15, "a rule that would leave its range becomes the end of that", SetBoundaries::farBeyondTheEnd);
        all.add(15, "a rule that would leave its range becomes the end of that", SetBoundaries::onFromTheEnd);
        all.add(15, "The rules of the set are the first ones, changed by its packs in that order, each by its changes"
                + " in theirs.", SetBoundaries::rulesOfEmptyAndFullSet);
        all.add(15, "The rules of the set are the first ones, changed by its packs in that order, each by its changes"
                + " in theirs.", SetBoundaries::rulesInTheOrder);
        all.add(15, "- `packs`: a set of packs that there are, as bits", SetBoundaries::rulesOfOneBit);
        all.add(15, "Throws `IndexOutOfBoundsException` if there is no such rule", SetBoundaries::noSuchRule);
        all.add(15, "Throws `IllegalArgumentException` if packs has another bit", SetBoundaries::rulesOfNoPacks);
        all.add(15, "Throws `IllegalStateException` if the set is not possible", SetBoundaries::rulesOfNone);
        all.add(15, TWICE, SetBoundaries::rulesRefusedTwice);
    }

    private static void noneToTen() {
        RuleCrypts x = new RuleCrypts();
        Checks.due("none", x.packs(), 0);
        x.pack();
        Checks.due("one", x.packs(), 1);
        for (int i = 1; i < 10; i++) {
            x.pack();
        }
        Checks.due("ten", x.packs(), 10);
        Checks.throwsDue("one more", Crypts.STATE, x::pack);
        Checks.due("still ten", x.packs(), 10);
    }

    private static void noneToFour() {
        RuleCrypts x = Crypts.withPacks(10);
        Checks.due("none", x.changes(9), 0);
        for (int i = 1; i <= 4; i++) {
            x.change(9, 0, true, 0);
        }
        Checks.due("four", x.changes(9), 4);
        Checks.throwsDue("one more", Crypts.STATE, () -> x.change(9, 0, true, 0));
        Checks.due("still four", x.changes(9), 4);
        Checks.due("none of the one beside it", x.changes(8), 0);
    }

    private static void changesOfNoPack() {
        for (int count : new int[] {0, 1, 9, 10}) {
            for (int pack : Crypts.beyond(count)) {
                Crypts.refused("changes(" + pack + ") of " + count, Crypts.INDEX, () -> Crypts.withPacks(count),
                        x -> x.changes(pack));
            }
        }
    }

    private static void bits() {
        RuleCrypts x = Crypts.withPacks(10);
        for (int pack = 0; pack < 10; pack++) {
            Checks.due("the bit of pack " + pack, x.orderAt(1 << pack, 0), pack);
            Checks.due("stands for it alone", x.orderAt(1 << pack, 1), -1);
        }
    }

    private static void emptyAndFullSet() {
        Checks.due("the empty set of none", new RuleCrypts().isPossible(0), true);
        RuleCrypts x = Crypts.withPacks(10);
        Checks.due("the empty set", x.isPossible(0), true);
        Checks.due("all ten", x.isPossible(1023), true);
        x.setNeeds(9, 511);
        Checks.due("all ten, the last needs the others", x.isPossible(1023), true);
        Checks.due("the last alone", x.isPossible(512), false);
        Checks.due("the empty set still", x.isPossible(0), true);
    }

    private static void oneIsMissing() {
        RuleCrypts x = Crypts.withPacks(10);
        x.setNeeds(4, 1023 & ~16);
        for (int missing = 0; missing < 10; missing++) {
            Checks.due("without " + missing, x.isPossible(1023 & ~(1 << missing)), missing == 4);
        }
        RuleCrypts chain = Crypts.chain(10);
        for (int missing = 1; missing < 10; missing++) {
            Checks.due("a chain without " + missing, chain.isPossible(1023 & ~(1 << missing)), false);
        }
        Checks.due("a chain without its end", chain.isPossible(1022), true);
    }

    private static void circles() {
        RuleCrypts x = Crypts.chain(10);
        Checks.due("a chain of ten", x.isPossible(1023), true);
        x.setNeeds(9, 1);
        Checks.due("a circle of ten", x.isPossible(1023), false);
        RuleCrypts two = Crypts.withPacks(3);
        two.setNeeds(0, 2);
        two.setNeeds(1, 1);
        Checks.due("a circle of two", two.isPossible(3), false);
        Checks.due("a circle of two among three", two.isPossible(7), false);
        Checks.due("what is not in the circle", two.isPossible(4), true);
    }

    private static void possibleOfNoPacks() {
        for (int count : new int[] {0, 3, 10}) {
            for (int packs : Crypts.otherBits(count)) {
                Crypts.refused("isPossible(" + packs + ") of " + count, Crypts.ARGUMENT,
                        () -> Crypts.chain(count), x -> x.isPossible(packs));
            }
        }
    }

    private static void possibleOfAll() {
        for (int count = 0; count <= 10; count++) {
            RuleCrypts x = Crypts.withPacks(count);
            int all = (1 << count) - 1;
            Checks.due("all of " + count, x.isPossible(all), true);
            Checks.throwsDue("one more", Crypts.ARGUMENT, () -> x.isPossible(all + 1));
        }
    }

    private static void lowestFirst() {
        RuleCrypts x = Crypts.withPacks(4);
        x.setNeeds(0, 2);
        inOrder(x, 15, 1, 0, 2, 3);
        x.setNeeds(0, 8);
        inOrder(x, 15, 1, 2, 3, 0);
        x.setNeeds(1, 1);
        inOrder(x, 15, 2, 3, 0, 1);
        x.setNeeds(2, 8);
        inOrder(x, 15, 3, 0, 1, 2);
    }

    private static void inOrder(RuleCrypts x, int packs, int... due) {
        for (int place = 0; place < due.length; place++) {
            Checks.due("place " + place, x.orderAt(packs, place), due[place]);
        }
        Checks.due("behind the last one", x.orderAt(packs, due.length), -1);
    }

    private static void longestChain() {
        inOrder(Crypts.chain(10), 1023, 9, 8, 7, 6, 5, 4, 3, 2, 1, 0);
        inOrder(Crypts.withPacks(10), 1023, 0, 1, 2, 3, 4, 5, 6, 7, 8, 9);
    }

    private static void orderOfAll() {
        RuleCrypts x = Crypts.chain(10);
        inOrder(x, 0);
        inOrder(x, 512, 9);
        inOrder(x, 768, 9, 8);
        inOrder(Crypts.withPacks(1), 1, 0);
    }

    private static void firstAndLastPlace() {
        RuleCrypts x = Crypts.withPacks(10);
        x.setNeeds(0, 1022);
        Checks.due("the first place", x.orderAt(1023, 0), 1);
        Checks.due("the last place", x.orderAt(1023, 9), 0);
        Checks.due("the only place", x.orderAt(4, 0), 2);
    }

    private static void notSoMany() {
        RuleCrypts x = Crypts.withPacks(10);
        Checks.due("place 10 of ten", x.orderAt(1023, 10), -1);
        Checks.due("place 11 of ten", x.orderAt(1023, 11), -1);
        Checks.due("the highest place", x.orderAt(1023, Integer.MAX_VALUE), -1);
        Checks.due("place 256", x.orderAt(1023, 256), -1);
        Checks.due("place 1 of one", x.orderAt(1, 1), -1);
        Checks.due("place 0 of none", x.orderAt(0, 0), -1);
        Checks.due("place 0 of a new object", new RuleCrypts().orderAt(0, 0), -1);
        x.orderAt(1023, 9);
        Checks.due("place 3 of three, behind a question for ten", x.orderAt(7, 3), -1);
    }

    private static void orderOfNoPacks() {
        for (int count : new int[] {0, 3, 10}) {
            for (int packs : Crypts.otherBits(count)) {
                Crypts.refused("orderAt(" + packs + ", 0) of " + count, Crypts.ARGUMENT,
                        () -> Crypts.chain(count), x -> x.orderAt(packs, 0));
            }
        }
    }

    private static void placeBelow() {
        for (int place : new int[] {-1, -2, -256, Integer.MIN_VALUE}) {
            Crypts.refused("orderAt(7, " + place + ")", Crypts.ARGUMENT, () -> Crypts.chain(3),
                    x -> x.orderAt(7, place));
            Crypts.refused("orderAt(0, " + place + ")", Crypts.ARGUMENT, RuleCrypts::new,
                    x -> x.orderAt(0, place));
        }
    }

    private static void orderOfNone() {
        Crypts.refused("the first place", Crypts.STATE, () -> Crypts.chain(3), x -> x.orderAt(3, 0));
        Crypts.refused("a place that is filled before the circle", Crypts.STATE, SetBoundaries::circleBehindPack0,
                x -> x.orderAt(7, 0));
        Crypts.refused("a place of which there are not so many", Crypts.STATE, () -> Crypts.chain(3),
                x -> x.orderAt(1, Integer.MAX_VALUE));
    }

    private static RuleCrypts circleBehindPack0() {
        RuleCrypts x = Crypts.withPacks(3);
        x.setNeeds(1, 4);
        x.setNeeds(2, 2);
        return x;
    }

    private static void orderRefusedTwice() {
        Checks.throwsDue("place below 0, not possible", Crypts.ARGUMENT, () -> Crypts.chain(3).orderAt(1, -1));
        Checks.throwsDue("another bit, not possible", Crypts.ARGUMENT, () -> Crypts.chain(3).orderAt(9, 0));
        Checks.throwsDue("all of it", Crypts.ARGUMENT, () -> Crypts.chain(3).orderAt(-1, -1));
    }

    /** The first number, the ends of the range, and that what lies just beyond them is not to be set. */
    private static void rangeOf(int rule) {
        int least = new int[] {0, 0, 1, 0, 1, 0}[rule];
        int most = new int[] {20, 20, 9, 20, 50, 9}[rule];
        RuleCrypts x = Crypts.withPacks(1);
        Checks.due("at first", x.ruleOf(0, rule), new int[] {3, 4, 3, 3, 10, 1}[rule]);
        Checks.due("at first, by a pack without changes", x.ruleOf(1, rule), new int[] {3, 4, 3, 3, 10, 1}[rule]);
        x.change(0, rule, true, least);
        Checks.due("the least", x.ruleOf(1, rule), least);
        Checks.throwsDue("less", Crypts.ARGUMENT, () -> x.change(0, rule, true, least - 1));
        x.change(0, rule, true, most);
        Checks.due("the most", x.ruleOf(1, rule), most);
        Checks.throwsDue("more", Crypts.ARGUMENT, () -> x.change(0, rule, true, most + 1));
    }

    /** One less than the end, the end itself, and one beyond it, at both ends. */
    private static void justTheEnd() {
        for (int rule = 0; rule < 6; rule++) {
            RuleCrypts x = Crypts.withPacks(2);
            x.change(0, rule, true, Crypts.MOST[rule] - 1);
            x.change(1, rule, true, Crypts.LEAST[rule] + 1);
            for (int i = 0; i < 2; i++) {
                x.change(0, rule, false, 1);
                x.change(1, rule, false, -1);
                Checks.due("1 more, " + i, x.ruleOf(1, rule), Crypts.MOST[rule]);
                Checks.due("1 less, " + i, x.ruleOf(2, rule), Crypts.LEAST[rule]);
            }
        }
    }

    private static void farBeyondTheEnd() {
        for (int rule = 0; rule < 6; rule++) {
            RuleCrypts x = Crypts.withPacks(2);
            x.change(0, rule, true, Crypts.MOST[rule]);
            x.change(0, rule, false, 20);
            x.change(1, rule, true, Crypts.LEAST[rule]);
            x.change(1, rule, false, -20);
            Checks.due("20 more than the most", x.ruleOf(1, rule), Crypts.MOST[rule]);
            Checks.due("20 less than the least", x.ruleOf(2, rule), Crypts.LEAST[rule]);
        }
    }

    /** What went beyond the end is not owed: each change becomes the end by itself. */
    private static void onFromTheEnd() {
        for (int rule = 0; rule < 6; rule++) {
            RuleCrypts x = Crypts.withPacks(4);
            x.change(0, rule, true, Crypts.MOST[rule]);
            x.change(0, rule, false, 20);
            x.change(1, rule, false, -1);
            Checks.due("1 less than the most", x.ruleOf(3, rule), Crypts.MOST[rule] - 1);
            x.change(2, rule, true, Crypts.LEAST[rule]);
            x.change(2, rule, false, -20);
            x.change(3, rule, false, 1);
            Checks.due("1 more than the least", x.ruleOf(12, rule), Crypts.LEAST[rule] + 1);
        }
    }

    private static void rulesOfEmptyAndFullSet() {
        RuleCrypts x = Crypts.withPacks(10);
        for (int pack = 0; pack < 10; pack++) {
            x.change(pack, 4, false, 4);
        }
        Checks.due("the empty set, with ten packs", x.ruleOf(0, 4), 10);
        Checks.due("all ten", x.ruleOf(1023, 4), 50);
        Checks.due("nine of them", x.ruleOf(511, 4), 46);
        Checks.due("the empty set again", x.ruleOf(0, 4), 10);
        Checks.due("the empty set of a new object", new RuleCrypts().ruleOf(0, 4), 10);
    }

    private static void rulesInTheOrder() {
        RuleCrypts x = Crypts.withPacks(2);
        x.change(0, 1, false, 20);
        x.change(0, 1, false, -7);
        x.change(1, 1, true, 0);
        Checks.due("up to the end, then less", x.ruleOf(1, 1), 13);
        Checks.due("set last", x.ruleOf(3, 1), 0);
        x.setNeeds(0, 2);
        Checks.due("set first", x.ruleOf(3, 1), 13);
    }

    private static void rulesOfOneBit() {
        RuleCrypts x = Crypts.withPacks(10);
        for (int pack = 0; pack < 10; pack++) {
            x.change(pack, 0, true, 10 + pack);
        }
        for (int pack = 0; pack < 10; pack++) {
            Checks.due("pack " + pack + " alone", x.ruleOf(1 << pack, 0), 10 + pack);
        }
    }

    private static void noSuchRule() {
        for (int rule : Crypts.beyond(6)) {
            Crypts.refused("ruleOf(3, " + rule + ")", Crypts.INDEX, () -> Crypts.withPacks(2),
                    x -> x.ruleOf(3, rule));
            Crypts.refused("ruleOf(0, " + rule + ")", Crypts.INDEX, RuleCrypts::new, x -> x.ruleOf(0, rule));
        }
    }

    private static void rulesOfNoPacks() {
        for (int count : new int[] {0, 3, 10}) {
            for (int packs : Crypts.otherBits(count)) {
                Crypts.refused("ruleOf(" + packs + ", 5) of " + count, Crypts.ARGUMENT,
                        () -> Crypts.chain(count), x -> x.ruleOf(packs, 5));
            }
        }
    }

    private static void rulesOfNone() {
        for (int i = 0; i < 6; i++) {
            int rule = i;
            Crypts.refused("rule " + rule + " of a set without what it needs", Crypts.STATE,
                    () -> Crypts.chain(3), x -> x.ruleOf(3, rule));
            Crypts.refused("rule " + rule + " of a circle", Crypts.STATE, SetBoundaries::circleBehindPack0,
                    x -> x.ruleOf(7, rule));
        }
    }

    private static void rulesRefusedTwice() {
        Checks.throwsDue("no rule, another bit", Crypts.INDEX, () -> Crypts.chain(3).ruleOf(8, 6));
        Checks.throwsDue("no rule, not possible", Crypts.INDEX, () -> Crypts.chain(3).ruleOf(1, -1));
        Checks.throwsDue("another bit, not possible", Crypts.ARGUMENT, () -> Crypts.chain(3).ruleOf(9, 0));
        Checks.throwsDue("all of it", Crypts.INDEX, () -> Crypts.chain(3).ruleOf(-1, 6));
    }
}
