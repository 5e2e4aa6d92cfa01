import java.util.Arrays;

/** Scenes that several tests start from. */
final class Scenes {
    static final String[] NEW = {};

    /**
     * Barrels 0 and 1 float, tied to each other, 2 is lost and 3 is saved; on the board, 2 and 3 lie beside
     * 1. Castaway 0 is lost, 1 is saved, and 2 is on barrel 0. There are 9 ropes, a water and a wind.
     */
    static final String[] FATES = {
        "addBarrel(0, 0, 20, 0)", "addBarrel(1, 0, 20, 0)", "addBarrel(2, 0, 6, 0)", "addBarrel(1, 1, 40, 0)",
        "load(0, 10)", "load(1, 10)", "load(3, 4)", "addCastaway(2)", "addCastaway(3)", "setWind(2, 0)",
        "pass(15)", "tie(0, 1, 50)", "addCastaway(0)", "addWater(0, 0, 30, 20, 1, -1, 3)"};

    /** 24 barrels, 10 lashings and so no rope, 8 castaways, 8 waters. */
    static final String[] FULL = full();

    private Scenes() {
    }

    private static String[] full() {
        String[] scene = barrels(24);
        for (int n = 0; n < 7; n++) {
            scene = Play.and(scene, "tie(" + n + ", " + (n + 1) + ", 40)");
        }
        scene = Play.and(scene, Play.each("tie(8, #, 30)", 0, 9));
        scene = Play.and(scene, "tie(9, 10, 20)");
        scene = Play.and(scene, Play.each("addCastaway(#)", 0, 1, 2, 3, 8, 9, 10, 23));
        return Play.and(scene, Play.each("addWater(#, 0, 3, 20, 1, 0, #)", 0, 1, 2, 3, 4, 5, 6, 7));
    }

    /** So many barrels that lift 20, from the first place of the board on. */
    static String[] barrels(int number) {
        String[] scene = NEW;
        for (int n = 0; n < number; n++) {
            scene = Play.and(scene, "addBarrel(" + n % 8 + ", " + n / 8 + ", 20, 0)");
        }
        return scene;
    }

    /** The same call so many times. */
    static String[] times(int number, String call) {
        String[] scene = new String[number];
        Arrays.fill(scene, call);
        return scene;
    }
}
