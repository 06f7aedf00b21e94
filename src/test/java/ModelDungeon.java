import java.util.ArrayList;
import java.util.List;

/** A dungeon of the model; its rules are the six numbers, and the seed behind them. */
final class ModelDungeon {
    final int[] rules;
    final List<ModelFloor> floors = new ArrayList<>();
    private long x;

    ModelDungeon(int[] rules) {
        this.rules = rules;
        x = rules[6];
        int entry = 0;
        for (int i = 0; i < 3; i++) {
            floors.add(new ModelFloor(entry, rules, this::draw));
            entry = floors.get(i).stairs;
        }
    }

    private int draw() {
        x = (x * 75 + 74) % 65537;
        return (int) x;
    }
}
