/** Boundaries of the promises 1 to 5: a new object, packs, their changes and what they need. */
final class PackBoundaries {
    private PackBoundaries() {
    }

    static void addTo(Boundaries all) {
        all.add(1, "No packs, days and runs; an empty draft.", PackBoundaries::newObject);
        all.add(1, "No packs, days and runs; an empty draft.", PackBoundaries::newObjectBesideAnother);
        all.add(1, "An object is used for at most 512 calls after it has been made", PackBoundaries::lastCall);
        all.add(2, "Packs are numbered from 0 on; at most 10 are made", PackBoundaries::tenPacks);
        all.add(2, "Makes a pack without changes.", PackBoundaries::packWithoutChanges);
        all.add(2, "Throws `IllegalStateException` if there are 10", PackBoundaries::eleventhPack);
        addChanges(all);
        addMending(all);
        addNeeds(all);
    }

    private static void addChanges(Boundaries all) {
        all.add(3, "A pack has at most 4 changes, and needs some other packs, none at first",
                PackBoundaries::fourChanges);
        all.add(3, "Returns how many changes it has then.", PackBoundaries::changesCounted);
        all.add(3, "adds a number, -20 to 20, to it", PackBoundaries::numberToAdd);
        all.add(3, "- `number`: -20 to 20 to be added; the range of the rule to be set",
                PackBoundaries::numberToSet);
        all.add(3, "- `sets`: whether it sets the rule, otherwise it adds to it", PackBoundaries::setsOrAdds);
        all.add(3, "Throws `IndexOutOfBoundsException` if there is no such pack or rule",
                PackBoundaries::changeOfNoPack);
        all.add(3, "Throws `IndexOutOfBoundsException` if there is no such pack or rule",
                PackBoundaries::changeOfNoRule);
        all.add(3, "Throws `IllegalArgumentException` if number is out of range", PackBoundaries::addsTooMuch);
        all.add(3, "Throws `IllegalArgumentException` if number is out of range", PackBoundaries::setsTooMuch);
        all.add(3, "Throws `IllegalStateException` if it has 4", PackBoundaries::fifthChange);
        all.add(3, "If several exceptions apply, the one that is named first in the throws clause is thrown",
                PackBoundaries::changeRefusedTwice);
    }

    private static void addMending(Boundaries all) {
        all.add(4, "Mends a pack: its last change is taken away.", PackBoundaries::lastIsMended);
        all.add(4, "Returns how many changes it has then.", PackBoundaries::mendedToNone);
        all.add(4, "Throws `IndexOutOfBoundsException` if there is no such pack", PackBoundaries::mendOfNoPack);
        all.add(4, "Throws `IllegalStateException` if it has none", PackBoundaries::mendOfNone);
    }

    private static void addNeeds(Boundaries all) {
        all.add(5, "- `needs`: a set of packs that there are, without it itself, as bits",
                PackBoundaries::allOthers);
        all.add(5, "Returns what it needed.", PackBoundaries::needsBefore);
        all.add(5, "Throws `IndexOutOfBoundsException` if there is no such pack", PackBoundaries::needsOfNoPack);
        all.add(5, "Throws `IllegalArgumentException` if needs has another bit", PackBoundaries::needsNoPack);
        all.add(5, "Throws `IllegalArgumentException` if needs has another bit", PackBoundaries::needsItself);
        all.add(5, "If several exceptions apply, the one that is named first in the throws clause is thrown",
                PackBoundaries::needsRefusedTwice);
    }

    private static void newObject() {
        RuleCrypts x = new RuleCrypts();
        Checks.due("packs()", x.packs(), 0);
        Checks.due("today()", x.today(), -1);
        Checks.due("runs()", x.runs(), 0);
        Checks.due("dungeons()", x.dungeons(), 0);
        Checks.throwsDue("changes(0)", Crypts.INDEX, () -> x.changes(0));
        Checks.throwsDue("stairs(0, 0)", Crypts.INDEX, () -> x.stairs(0, 0));
        Checks.throwsDue("verdict(0)", Crypts.INDEX, () -> x.verdict(0));
        Checks.throwsDue("ranked(0, 0)", Crypts.INDEX, () -> x.ranked(0, 0));
        Checks.due("wipe()", x.wipe(), 0);
        Checks.due("key(5)", x.key(5), 1);
    }

    /** What another object has is none of the new one's. */
    private static void newObjectBesideAnother() {
        RuleCrypts other = Crypts.withPacks(10);
        other.open(65535, 1023);
        Crypts.judged(other, 7, -1, ".");
        Crypts.press(other, "...");
        newObject();
        RuleCrypts x = new RuleCrypts();
        x.open(1, 0);
        Crypts.handIn(x, 0, 0, "uuu");
        Checks.due("packs of the other", other.packs(), 10);
        Checks.due("its dungeon", other.dungeonToday(), 0);
        Checks.due("its glory", other.glory(7), -1);
        other.handIn(7, 0);
        Checks.due("its draft", other.scoreOf(1), -3);
    }

    /** What later calls answer is free: no test of this project makes more than 512 on one object. */
    private static void lastCall() {
        RuleCrypts x = new RuleCrypts();
        for (int call = 1; call <= 509; call++) {
            x.wipe();
        }
        Checks.due("the 510th call", x.pack(), 0);
        Checks.throwsDue("the 511th call", Crypts.STATE, () -> x.mend(0));
        Checks.due("the 512th call", x.change(0, 4, true, 50), 1);
    }

    private static void tenPacks() {
        RuleCrypts x = new RuleCrypts();
        for (int i = 0; i < 10; i++) {
            Checks.due("pack()", x.pack(), i);
        }
        Checks.due("packs()", x.packs(), 10);
        Checks.due("the last one is there", x.change(9, 0, true, 0), 1);
    }

    private static void packWithoutChanges() {
        RuleCrypts x = Crypts.withPacks(9);
        for (int i = 0; i < 9; i++) {
            x.change(i, 0, false, i);
        }
        x.pack();
        Checks.due("changes of the tenth pack", x.changes(9), 0);
        Checks.due("its rule", x.ruleOf(1 << 9, 0), 3);
        Checks.throwsDue("mend(9)", Crypts.STATE, () -> x.mend(9));
    }

    private static void eleventhPack() {
        Crypts.refused("pack()", Crypts.STATE, () -> Crypts.withPacks(10), RuleCrypts::pack);
        RuleCrypts x = Crypts.withPacks(10);
        Checks.throwsDue("pack()", Crypts.STATE, x::pack);
        Checks.throwsDue("pack() again", Crypts.STATE, x::pack);
        Checks.due("packs()", x.packs(), 10);
    }

    private static void fourChanges() {
        RuleCrypts x = Crypts.withPacks(10);
        for (int pack = 0; pack < 10; pack++) {
            Checks.due("needs at first", x.setNeeds(pack, 0), 0);
            for (int i = 1; i <= 4; i++) {
                Checks.due("change " + i + " of pack " + pack, x.change(pack, 0, false, 1), i);
            }
        }
        Checks.due("each of 40 changes counts", x.ruleOf(15, 0), 19);
    }

    private static void changesCounted() {
        RuleCrypts x = Crypts.withPacks(2);
        Checks.due("the first one", x.change(1, 0, true, 0), 1);
        x.mend(1);
        Checks.due("the first one again", x.change(1, 0, true, 0), 1);
        Checks.due("the first one of the other", x.change(0, 0, true, 0), 1);
    }

    private static void numberToAdd() {
        for (int rule = 0; rule < 6; rule++) {
            RuleCrypts x = Crypts.withPacks(1);
            Checks.due("add -20 to rule " + rule, x.change(0, rule, false, -20), 1);
            Checks.due("add 20 to rule " + rule, x.change(0, rule, false, 20), 2);
            Checks.due("add 0 to rule " + rule, x.change(0, rule, false, 0), 3);
            int due = Math.min(Crypts.LEAST[rule] + 20, Crypts.MOST[rule]);
            Checks.due("rule " + rule, x.ruleOf(1, rule), due);
        }
    }

    private static void numberToSet() {
        for (int rule = 0; rule < 6; rule++) {
            RuleCrypts x = Crypts.withPacks(2);
            Checks.due("set the least", x.change(0, rule, true, Crypts.LEAST[rule]), 1);
            Checks.due("set the most", x.change(1, rule, true, Crypts.MOST[rule]), 1);
            Checks.due("the least of rule " + rule, x.ruleOf(1, rule), Crypts.LEAST[rule]);
            Checks.due("the most of rule " + rule, x.ruleOf(2, rule), Crypts.MOST[rule]);
        }
    }

    private static void setsOrAdds() {
        RuleCrypts x = Crypts.withPacks(2);
        x.change(0, 0, true, 0);
        x.change(1, 0, false, 0);
        Checks.due("set to 0", x.ruleOf(1, 0), 0);
        Checks.due("0 is added", x.ruleOf(2, 0), 3);
        x.change(0, 0, true, 20);
        x.change(1, 0, false, 17);
        Checks.due("set to 20", x.ruleOf(1, 0), 20);
        Checks.due("17 is added", x.ruleOf(2, 0), 20);
    }

    private static void changeOfNoPack() {
        for (int pack : Crypts.beyond(2)) {
            Crypts.refused("change of pack " + pack, Crypts.INDEX, () -> Crypts.withPacks(2),
                    x -> x.change(pack, 0, true, 0));
        }
        Crypts.refused("change of pack 0 of none", Crypts.INDEX, RuleCrypts::new, x -> x.change(0, 0, true, 0));
        Crypts.refused("change of pack 10 of ten", Crypts.INDEX, () -> Crypts.withPacks(10),
                x -> x.change(10, 0, true, 0));
    }

    private static void changeOfNoRule() {
        for (int rule : Crypts.beyond(6)) {
            Crypts.refused("set rule " + rule, Crypts.INDEX, () -> Crypts.withPacks(1),
                    x -> x.change(0, rule, true, 1));
            Crypts.refused("add to rule " + rule, Crypts.INDEX, () -> Crypts.withPacks(1),
                    x -> x.change(0, rule, false, 1));
        }
    }

    private static void addsTooMuch() {
        for (int i = 0; i < 6; i++) {
            int rule = i;
            for (int number : new int[] {-21, 21, 50, 255, -256, Integer.MIN_VALUE, Integer.MAX_VALUE}) {
                Crypts.refused("add " + number + " to rule " + rule, Crypts.ARGUMENT, () -> Crypts.withPacks(1),
                        x -> x.change(0, rule, false, number));
            }
        }
    }

    private static void setsTooMuch() {
        for (int i = 0; i < 6; i++) {
            int rule = i;
            int[] numbers = {Crypts.LEAST[rule] - 1, Crypts.MOST[rule] + 1, -20, 51, 256, Integer.MIN_VALUE,
                Integer.MAX_VALUE};
            for (int number : numbers) {
                Crypts.refused("set rule " + rule + " to " + number, Crypts.ARGUMENT, () -> Crypts.withPacks(1),
                        x -> x.change(0, rule, true, number));
            }
        }
    }

    private static RuleCrypts full() {
        RuleCrypts x = Crypts.withPacks(2);
        for (int i = 1; i <= 4; i++) {
            x.change(1, i, false, i);
        }
        return x;
    }

    private static void fifthChange() {
        Crypts.refused("a fifth change that sets", Crypts.STATE, PackBoundaries::full,
                x -> x.change(1, 0, true, 0));
        Crypts.refused("a fifth change that adds", Crypts.STATE, PackBoundaries::full,
                x -> x.change(1, 4, false, 1));
        RuleCrypts x = full();
        Checks.due("the other pack has room", x.change(0, 0, true, 0), 1);
        x.mend(1);
        Checks.due("a mended pack has room", x.change(1, 0, true, 0), 4);
        Checks.throwsDue("for one", Crypts.STATE, () -> x.change(1, 0, true, 0));
    }

    private static void changeRefusedTwice() {
        Checks.throwsDue("no pack, no number", Crypts.INDEX, () -> full().change(2, 0, true, 21));
        Checks.throwsDue("no rule, no number", Crypts.INDEX, () -> full().change(0, 6, false, 21));
        Checks.throwsDue("no rule, a full pack", Crypts.INDEX, () -> full().change(1, 6, true, 0));
        Checks.throwsDue("no rule, no number, a full pack", Crypts.INDEX, () -> full().change(1, -1, true, 99));
        Checks.throwsDue("no number, a full pack", Crypts.ARGUMENT, () -> full().change(1, 0, true, 21));
        Checks.throwsDue("no number, a full pack", Crypts.ARGUMENT, () -> full().change(1, 0, false, -21));
    }

    private static void lastIsMended() {
        RuleCrypts x = Crypts.withPacks(1);
        int[] numbers = {20, 0, 11, 7};
        for (int number : numbers) {
            x.change(0, 0, true, number);
        }
        for (int left = 3; left >= 1; left--) {
            x.mend(0);
            Checks.due("the last of " + left, x.ruleOf(1, 0), numbers[left - 1]);
        }
        x.mend(0);
        Checks.due("none is left", x.ruleOf(1, 0), 3);
    }

    private static void mendedToNone() {
        RuleCrypts x = full();
        x.change(0, 0, true, 0);
        for (int left = 3; left >= 0; left--) {
            Checks.due("mend(1)", x.mend(1), left);
            Checks.due("changes(1)", x.changes(1), left);
        }
        Checks.due("the other pack's change stays", x.changes(0), 1);
    }

    private static void mendOfNoPack() {
        for (int pack : Crypts.beyond(2)) {
            Crypts.refused("mend(" + pack + ")", Crypts.INDEX, PackBoundaries::full, x -> x.mend(pack));
        }
        Crypts.refused("mend(0) of none", Crypts.INDEX, RuleCrypts::new, x -> x.mend(0));
    }

    private static void mendOfNone() {
        Crypts.refused("mend of a pack without changes", Crypts.STATE, PackBoundaries::full, x -> x.mend(0));
        RuleCrypts x = Crypts.withPacks(1);
        x.change(0, 0, true, 9);
        x.mend(0);
        Checks.throwsDue("mend once more", Crypts.STATE, () -> x.mend(0));
        Checks.due("changes(0)", x.changes(0), 0);
        Checks.due("and it has room for one", x.change(0, 0, true, 9), 1);
    }

    private static void allOthers() {
        RuleCrypts x = Crypts.withPacks(10);
        for (int pack = 0; pack < 10; pack++) {
            int others = 1023 & ~(1 << pack);
            Checks.due("all others", x.setNeeds(pack, others), 0);
            Checks.due("none", x.setNeeds(pack, 0), others);
        }
        Checks.due("none, with one pack alone", Crypts.withPacks(1).setNeeds(0, 0), 0);
    }

    private static void needsBefore() {
        RuleCrypts x = Crypts.withPacks(3);
        Checks.due("nothing at first", x.setNeeds(1, 4), 0);
        Checks.due("then what was set", x.setNeeds(1, 5), 4);
        Checks.due("not both together", x.setNeeds(1, 1), 5);
        Checks.due("the others need nothing", x.setNeeds(0, 0) + x.setNeeds(2, 0), 0);
        x.pack();
        Checks.due("a later pack changes nothing", x.setNeeds(1, 8), 1);
    }

    private static RuleCrypts needing() {
        RuleCrypts x = Crypts.withPacks(3);
        x.setNeeds(0, 6);
        x.setNeeds(1, 4);
        return x;
    }

    private static void needsOfNoPack() {
        for (int pack : Crypts.beyond(3)) {
            Crypts.refused("setNeeds(" + pack + ", 0)", Crypts.INDEX, PackBoundaries::needing,
                    x -> x.setNeeds(pack, 0));
        }
        Crypts.refused("setNeeds(0, 0) of none", Crypts.INDEX, RuleCrypts::new, x -> x.setNeeds(0, 0));
    }

    private static void needsNoPack() {
        for (int needs : Crypts.otherBits(3)) {
            Crypts.refused("setNeeds(0, " + needs + ")", Crypts.ARGUMENT, PackBoundaries::needing,
                    x -> x.setNeeds(0, needs & ~1));
        }
        Crypts.refused("an eleventh pack", Crypts.ARGUMENT, () -> Crypts.withPacks(10),
                x -> x.setNeeds(0, 1 << 10));
        Crypts.refused("the others, with one pack alone", Crypts.ARGUMENT, () -> Crypts.withPacks(1),
                x -> x.setNeeds(0, 2));
    }

    private static void needsItself() {
        for (int i = 0; i < 3; i++) {
            int pack = i;
            Crypts.refused(pack + " itself", Crypts.ARGUMENT, PackBoundaries::needing,
                    x -> x.setNeeds(pack, 1 << pack));
            Crypts.refused(pack + " among all", Crypts.ARGUMENT, PackBoundaries::needing,
                    x -> x.setNeeds(pack, 7));
        }
        Crypts.refused("the tenth itself", Crypts.ARGUMENT, () -> Crypts.withPacks(10),
                x -> x.setNeeds(9, 1 << 9));
    }

    private static void needsRefusedTwice() {
        Checks.throwsDue("no pack, other bits", Crypts.INDEX, () -> needing().setNeeds(3, 8));
        Checks.throwsDue("no pack, all bits", Crypts.INDEX, () -> needing().setNeeds(-1, -1));
        Checks.throwsDue("pack 0 of none, itself", Crypts.INDEX, () -> new RuleCrypts().setNeeds(0, 1));
    }
}
