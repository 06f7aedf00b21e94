import java.io.IOException;
import java.nio.file.Files;
import java.nio.file.Path;
import java.util.ArrayList;
import java.util.List;
import java.util.Set;

/**
 * Each sentence of the document that names a boundary has a test of its own, by its promise's number: they
 * all are run here, and the document is gone through for sentences that have none.
 */
public final class BoundaryTest {
    private static final Path DOCUMENT = Path.of("../shared/DOC.md");
    private static final int PROMISES = 32;

    /** Terms that only name a thing, or begin a list: each of their cases stands in another sentence. */
    private static final Set<String> NO_BOUNDARY_IN_TERMS = Set.of("Dungeons", "Growing a floor:", "Ways", "Loops",
            "Monsters", "Treasures", "Playing", "A change is of a rule:", "The judge replays a run:");

    /** Lines of promises that only name what is given or answered. */
    private static final Set<String> NO_BOUNDARY_IN_PROMISES = Set.of(
            "- `pack`: the pack", "- `rule`: the rule", "- `player`: the player", "- `run`: the run",
            "- `dungeon`: the dungeon", "- `floor`: the floor", "- `room`: the room",
            "Adds a change to a pack.", "Sets what a pack needs.", "Opens a day.", "Adds a key to the draft.",
            "Hands a run in.", "Judges a run.", "Returns its number.", "Returns the number.", "Returns the verdict.",
            "Returns the pack at a place of the order of a set.",
            "Returns a number of the rules of a set of packs.", "Returns the number of the dungeon of today.",
            "Tells whether a room has a door in a direction.",
            "Returns the strength of the monster that a room has at first.", "Returns the verdict of a run.",
            "Returns the rank of a run in its dungeon.", "Returns the run with a rank in a dungeon.");

    private BoundaryTest() {
    }

    public static void main(String[] args) throws IOException {
        Boundaries all = new Boundaries();
        PackBoundaries.addTo(all);
        SetBoundaries.addTo(all);
        DayBoundaries.addTo(all);
        DungeonBoundaries.addTo(all);
        PlayBoundaries.addTo(all);
        RunBoundaries.addTo(all);
        for (Boundaries.Boundary boundary : all.all()) {
            run(boundary);
        }
        Checks.about("");
        String document = Files.readString(DOCUMENT);
        quotedRightly(document, all);
        termsCovered(between(document, "## Terms", "## Promise 1:"), all);
        for (int promise = 1; promise <= PROMISES; promise++) {
            promiseCovered(promise, promiseText(document, promise), all);
        }
        System.out.println(all.all().size() + " boundaries");
        Checks.end();
    }

    private static void run(Boundaries.Boundary boundary) {
        int before = Checks.made();
        Checks.about("promise " + boundary.promise() + ", \"" + boundary.sentence() + "\"");
        try {
            boundary.test().run();
        } catch (RuntimeException e) {
            Checks.complain("the test ended by " + e);
        }
        Checks.due("the test makes checks", Checks.made() > before, true);
    }

    private static String between(String text, String from, String to) {
        int start = text.indexOf(from);
        int end = text.indexOf(to, start);
        Checks.due("the document has " + from, start >= 0 && end > start, true);
        return start >= 0 && end > start ? text.substring(start, end) : "";
    }

    private static String promiseText(String document, int promise) {
        String next = promise == PROMISES ? "## Not promised" : "## Promise " + (promise + 1) + ":";
        return between(document, "## Promise " + promise + ":", next);
    }

    private static String everyPromises(String document) {
        return between(document, "# RuleCrypts", "## The public face")
                + between(document, "## Terms", "## Promise 1:");
    }

    private static void quotedRightly(String document, Boundaries all) {
        for (Boundaries.Boundary boundary : all.all()) {
            String text = everyPromises(document) + promiseText(document, boundary.promise());
            Checks.due("promise " + boundary.promise() + " says: " + boundary.sentence(),
                    text.contains(boundary.sentence()), true);
        }
    }

    /** The parts of sentences, as far as a semicolon or a colon divides them. */
    private static List<String> parts(String text) {
        List<String> parts = new ArrayList<>();
        for (String line : text.split("\n")) {
            if (!line.isEmpty() && !line.startsWith("#") && !line.startsWith("Ahead of the calls")) {
                for (String part : line.replaceFirst("^- ", "").split("(?<=[.:]) |; ")) {
                    parts.add(part.replaceFirst("\\.$", ""));
                }
            }
        }
        return parts;
    }

    private static void termsCovered(String terms, Boundaries all) {
        for (String part : parts(terms)) {
            boolean covered = NO_BOUNDARY_IN_TERMS.contains(part);
            for (Boundaries.Boundary boundary : all.all()) {
                covered |= boundary.sentence().contains(part) || part.contains(boundary.sentence());
            }
            Checks.due("the terms are tested: " + part, covered, true);
        }
    }

    private static void promiseCovered(int promise, String text, Boundaries all) {
        for (String line : text.split("\n")) {
            String said = line.replaceFirst("^`[^`]*`: ", "");
            boolean covered = said.isEmpty() || said.startsWith("## ") || NO_BOUNDARY_IN_PROMISES.contains(said);
            for (Boundaries.Boundary boundary : all.all()) {
                covered |= boundary.promise() == promise && boundary.sentence().equals(said);
            }
            Checks.due("promise " + promise + " is tested: " + said, covered, true);
        }
    }
}
