import java.util.ArrayList;
import java.util.List;

/** Fixed runs of calls, as texts, in which all that the document tells of comes about. */
final class Runs {
    private static final int RUNS = 60;
    private static final int TURNS = 110;

    private final List<String> calls = new ArrayList<>();
    private final int wide;
    private final int barrels;
    private long seed;

    private Runs(int run) {
        seed = 0x9E3779B97F4A7C15L * (run + 1);
        wide = run % 3 == 0 ? 6 : 3;
        barrels = run % 3 == 0 ? 24 : 3 + next(10);
    }

    /** Less than 140 calls each, so that an object can be asked many questions behind them. */
    static List<String[]> all() {
        List<String[]> all = new ArrayList<>();
        for (int run = 0; run < RUNS; run++) {
            Runs made = new Runs(run);
            made.write(run);
            all.add(made.calls.toArray(new String[0]));
        }
        return all;
    }

    private int next(int bound) {
        seed = seed * 6364136223846793005L + 1442695040888963407L;
        return (int) ((seed >>> 33) % bound);
    }

    private void write(int run) {
        int waves = run % 2 == 0 ? 20 : 8;
        for (int water = next(4); water >= 0; water--) {
            int x = next(12);
            call("addWater", x, next(6), 30 - x, 14, 1 + next(2), next(5) - 2, next(waves + 1));
        }
        for (int b = 0; b < barrels; b++) {
            call("addBarrel", b % wide, b / wide, 8 + next(33), next(3) == 0 ? next(4) : 0);
        }
        for (int turn = 0; turn < TURNS; turn++) {
            turn(turn);
        }
    }

    private void turn(int turn) {
        int a = next(barrels);
        int b = next(2) == 0 ? a + 1 : a + wide;
        switch (next(turn < 40 ? 8 : 14)) {
            case 0:
                call("addCastaway", a);
                break;
            case 1:
                call("load", a, next(9));
                break;
            case 2:
            case 3:
            case 4:
            case 5:
            case 6:
                call("tie", a, b, 1 + next(50));
                break;
            case 7:
                call("setWind", next(5) - 2, next(5) - 2);
                break;
            case 8:
                call("cut", a, b);
                break;
            case 9:
                call("go", next(8), a);
                break;
            case 10:
                call("bail", next(8));
                break;
            case 11:
                call("load", a, next(18));
                break;
            case 12:
                call("addBarrel", next(8), next(8), 1 + next(40), next(10));
                break;
            default:
                call("pass", 1 + next(4));
                break;
        }
    }

    private void call(String name, int... numbers) {
        StringBuilder text = new StringBuilder(name).append('(');
        for (int i = 0; i < numbers.length; i++) {
            text.append(i == 0 ? "" : ", ").append(numbers[i]);
        }
        calls.add(text.append(')').toString());
    }
}
