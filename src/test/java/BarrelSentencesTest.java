/** Promises 5, 8 and 9, sentence by sentence: addBarrel, load, barrel; and the barrels of the terms. */
public final class BarrelSentencesTest {
    private static final String[] FATES = Scenes.FATES;
    /** As FATES, and the last two that float are saved, too: none floats, one is lost. */
    private static final String[] NONE_FLOATS = Play.and(FATES, "setWind(0, 0)", "pass(30)");

    public static void main(String[] args) {
        numbers();
        where();
        addBarrelRefused();
        load();
        barrel();
        barrelWater();
        barrelFates();
        Sentences.end("BarrelSentencesTest");
    }

    private static void numbers() {
        Sentences.of("5: returns its number, from 0 in the order of their coming", () ->
                new Play().due("addBarrel(7, 7, 1, 0)", 0).due("addBarrel(0, 0, 1, 0)", 1)
                        .due("addBarrel(3, 4, 1, 0)", 2).dues("barrel(#, 0)", 7, 0, 3, Play.INDEX)
                        .dues("barrel(#, 1)", 7, 0, 4, Play.INDEX));
        Sentences.of("5: a refused one takes no number", () ->
                new Play().due("addBarrel(8, 0, 1, 0)", Play.ARGUMENT).due("addBarrel(0, 0, 1, 0)", 0)
                        .due("addBarrel(0, 0, 1, 0)", Play.STATE).due("addBarrel(1, 0, 1, 0)", 1));
        Sentences.of("terms: at most 24 barrels, 0 to 23; 5: IllegalStateException if there are 24", () -> {
            String[] most = Scenes.barrels(23);
            new Play(most).due("addBarrel(7, 7, 1, 0)", 23).due("count(1)", 24).due("barrel(23, 0)", 7);
            Play.refuses(Play.and(most, "addBarrel(7, 7, 1, 0)"), Play.STATE, "addBarrel(0, 7, 1, 0)");
            Play.refuses(Scenes.FULL, Play.STATE, "addBarrel(0, 7, 1, 0)", "addBarrel(7, 7, 40, 9)");
        });
        Sentences.of("5: there are 24, also if none of them floats", () -> {
            String[] gone = Play.and(Scenes.FULL, "setWind(2, 0)", "pass(100)");
            new Play(gone).due("count(2)", 0).due("count(1)", 24);
            Play.refuses(gone, Play.STATE, "addBarrel(0, 7, 1, 0)");
        });
        Sentences.of("terms: at first a barrel floats, with water 0 and goods 0, no lashing and no load", () ->
                new Play("addBarrel(7, 6, 40, 9)").dues("barrel(0, #)", 7, 6, 40, 9, 0, 0, 0, 0, 0, 10, 0, 40, 0));
    }

    private static void where() {
        Sentences.of("5: at x 0, y 10, if no barrel floats: there is none", () ->
                new Play("setWind(2, 2)", "pass(5)", "addBarrel(0, 0, 1, 0)").due("barrel(0, 8)", 0)
                        .due("barrel(0, 9)", 10));
        Sentences.of("5: at x 0, y 10, if no barrel floats: all are lost", () ->
                new Play("addBarrel(0, 0, 9, 0)", "setWind(1, 1)", "pass(3)", "load(0, 30)", "pass(1)",
                        "addBarrel(1, 0, 1, 0)").due("barrel(0, 8)", 3).due("barrel(0, 9)", 13)
                        .due("barrel(0, 6)", 1).due("barrel(1, 8)", 0).due("barrel(1, 9)", 10));
        Sentences.of("5: at x 0, y 10, if no barrel floats: all are saved", () ->
                new Play("addBarrel(0, 0, 9, 0)", "setWind(2, 1)", "pass(15)", "addBarrel(1, 0, 1, 0)")
                        .due("barrel(0, 6)", 2).due("barrel(0, 8)", 29).due("barrel(1, 8)", 0)
                        .due("barrel(1, 9)", 10));
        String[] apart = {"addBarrel(0, 0, 20, 0)", "addBarrel(1, 0, 20, 0)", "addBarrel(2, 0, 20, 0)",
            "load(1, 10)", "load(2, 20)", "setWind(1, -1)", "pass(4)", "load(1, 0)", "pass(3)"};
        Sentences.of("5: otherwise where the one with the smallest number floats that floats: barrel 0", () ->
                new Play(apart).due("barrel(1, 8)", 3).due("barrel(2, 8)", 0).due("addBarrel(3, 0, 1, 0)", 3)
                        .due("barrel(3, 8)", 7).due("barrel(3, 9)", 3));
        Sentences.of("5: where the smallest that floats is: barrel 1, as 0 is lost", () ->
                new Play(Play.and(apart, "load(0, 21)", "setWind(0, 0)", "pass(1)")).due("barrel(0, 6)", 1)
                        .due("addBarrel(3, 0, 1, 0)", 3).due("barrel(3, 8)", 3).due("barrel(3, 9)", 7));
        Sentences.of("5: where the smallest that floats is: barrel 2, as 0 is saved and 1 is lost", () ->
                new Play(Play.and(apart, "load(1, 21)", "setWind(2, 0)", "pass(11)")).due("barrel(0, 6)", 2)
                        .due("barrel(1, 6)", 1).due("addBarrel(3, 0, 1, 0)", 3).due("barrel(3, 8)", 0)
                        .due("barrel(3, 9)", 10));
    }

    private static void addBarrelRefused() {
        refusedOutside("column is not 0 to 7", "addBarrel(#, 5, 1, 0)", 0, 7);
        refusedOutside("row is not 0 to 7", "addBarrel(5, #, 1, 0)", 0, 7);
        refusedOutside("lift is not 1 to 40", "addBarrel(5, 5, #, 0)", 1, 40);
        refusedOutside("leak is not 0 to 9", "addBarrel(5, 5, 1, #)", 0, 9);
        Sentences.of("5: column, row, lift and leak are its own, at both ends", () ->
                new Play("addBarrel(0, 7, 1, 9)", "addBarrel(7, 0, 40, 0)").due("barrel(0, 0)", 0)
                        .due("barrel(0, 1)", 7).due("barrel(0, 2)", 1).due("barrel(0, 3)", 9)
                        .due("barrel(1, 0)", 7).due("barrel(1, 1)", 0).due("barrel(1, 2)", 40)
                        .due("barrel(1, 3)", 0));
        Sentences.of("5: IllegalStateException if one lies there", () -> {
            Play.refuses(FATES, Play.STATE, "addBarrel(0, 0, 20, 0)", "addBarrel(1, 0, 20, 0)");
            Play.answers(FATES, 4, "addBarrel(0, 1, 20, 0)", "addBarrel(3, 0, 20, 0)");
        });
        Sentences.of("5: one lies there, at the last place of the board", () -> {
            String[] last = {"addBarrel(7, 7, 9, 0)"};
            Play.refuses(last, Play.STATE, "addBarrel(7, 7, 9, 0)");
            Play.answers(last, 1, "addBarrel(6, 7, 9, 0)", "addBarrel(7, 6, 9, 0)");
        });
        Sentences.of("5: one lies there, also a lost one", () ->
                Play.refuses(FATES, Play.STATE, "addBarrel(2, 0, 20, 0)"));
        Sentences.of("5: one lies there, also a saved one", () ->
                Play.refuses(FATES, Play.STATE, "addBarrel(1, 1, 20, 0)"));
        Sentences.of("5: where one lies, what is a wrong argument is told first", () ->
                Play.refuses(FATES, Play.ARGUMENT, "addBarrel(0, 0, 0, 0)", "addBarrel(0, 0, 41, 0)",
                        "addBarrel(2, 0, 1, -1)", "addBarrel(1, 1, 1, 10)"));
        Sentences.of("5: with 24, what is a wrong argument is told first", () ->
                Play.refuses(Scenes.FULL, Play.ARGUMENT, "addBarrel(-1, 0, 1, 0)", "addBarrel(8, 0, 1, 0)",
                        "addBarrel(0, -1, 1, 0)", "addBarrel(0, 8, 1, 0)", "addBarrel(7, 7, 0, 0)",
                        "addBarrel(7, 7, 41, 0)", "addBarrel(7, 7, 1, -1)", "addBarrel(7, 7, 1, 10)"));
    }

    private static void refusedOutside(String what, String call, int low, int high) {
        Sentences.of("5: IllegalArgumentException if " + what, () -> {
            Play.answers(FATES, 4, Play.each(call, low, high));
            Play.refuses(FATES, Play.ARGUMENT, Play.outside(call, low, high));
        });
    }

    private static void load() {
        Sentences.of("8: returns what it had, and it has these goods then, 0 to 30", () ->
                new Play(FATES).due("load(0, 30)", 10).due("barrel(0, 5)", 30).due("load(0, 1)", 30)
                        .due("barrel(0, 5)", 1).due("load(0, 0)", 1).due("load(0, 0)", 0).due("barrel(0, 5)", 0)
                        .due("barrel(1, 5)", 10));
        Sentences.of("8: goods are put on at once, though the barrel can't lift them", () ->
                new Play("addBarrel(0, 0, 1, 0)", "load(0, 30)").due("barrel(0, 12)", 30).due("barrel(0, 6)", 0));
        Sentences.of("8: IndexOutOfBoundsException if there is no such barrel", () -> {
            Play.answers(FATES, 10, "load(0, 5)", "load(1, 5)");
            Play.refuses(FATES, Play.INDEX, Play.outside("load(#, 5)", 0, 3));
            Play.refuses(Scenes.NEW, Play.INDEX, "load(0, 0)");
            Play.answers(Scenes.FULL, 0, "load(23, 1)");
            Play.refuses(Scenes.FULL, Play.INDEX, "load(24, 1)");
        });
        Sentences.of("8: IllegalArgumentException if goods is not 0 to 30", () -> {
            Play.answers(FATES, 10, Play.each("load(1, #)", 0, 30));
            Play.refuses(FATES, Play.ARGUMENT, Play.outside("load(1, #)", 0, 30));
        });
        Sentences.of("8: IllegalStateException if it does not float: lost", () ->
                Play.refuses(FATES, Play.STATE, Play.each("load(2, #)", 0, 1, 30)));
        Sentences.of("8: IllegalStateException if it does not float: saved", () ->
                Play.refuses(FATES, Play.STATE, Play.each("load(3, #)", 0, 4, 30)));
        Sentences.of("8: no such barrel is told ahead of wrong goods", () ->
                Play.refuses(FATES, Play.INDEX, "load(-1, -1)", "load(4, 31)"));
        Sentences.of("8: wrong goods are told ahead of not floating", () ->
                Play.refuses(FATES, Play.ARGUMENT, "load(2, 31)", "load(2, -1)", "load(3, 31)", "load(3, -1)"));
    }

    private static void barrel() {
        Sentences.of("9: IndexOutOfBoundsException if there is no such barrel", () -> {
            Play.answers(FATES, 20, "barrel(0, 2)", "barrel(1, 2)");
            Play.answers(FATES, 40, "barrel(3, 2)");
            Play.refuses(FATES, Play.INDEX, Play.outside("barrel(#, 2)", 0, 3));
            Play.refuses(Scenes.NEW, Play.INDEX, "barrel(0, 0)");
            Play.answers(Scenes.FULL, 20, "barrel(23, 2)");
            Play.refuses(Scenes.FULL, Play.INDEX, "barrel(24, 2)");
        });
        Sentences.of("9: IndexOutOfBoundsException if what is not 0 to 12", () -> {
            Play.answers(FATES, 17, "barrel(0, 12)");
            Play.answers(FATES, 1, "barrel(1, 0)");
            Play.refuses(FATES, Play.INDEX, Play.outside("barrel(0, #)", 0, 12));
            Play.refuses(FATES, Play.INDEX, Play.outside("barrel(2, #)", 0, 12));
        });
        Sentences.of("9: both wrong is refused as well", () ->
                Play.refuses(FATES, Play.INDEX, "barrel(4, 13)", "barrel(-1, -1)"));
        Sentences.of("9: its piece is named by the smallest number, whatever the order of tying", () ->
                new Play(Play.and(Scenes.barrels(4), "tie(3, 2, 9)")).dues("barrel(#, 7)", 0, 1, 2, 2)
                        .due("tie(2, 1, 9)", 8).dues("barrel(#, 7)", 0, 1, 1, 1)
                        .due("tie(0, 1, 9)", 7).dues("barrel(#, 7)", 0, 0, 0, 0)
                        .due("cut(2, 1)", 8).dues("barrel(#, 7)", 0, 0, 2, 2));
        Sentences.of("9: its lashings, none to 4", () ->
                new Play("addBarrel(3, 3, 9, 0)", "addBarrel(2, 3, 9, 0)", "addBarrel(4, 3, 9, 0)",
                        "addBarrel(3, 2, 9, 0)", "addBarrel(3, 4, 9, 0)").due("barrel(0, 10)", 0)
                        .due("tie(0, 1, 9)", 9).due("barrel(0, 10)", 1).due("tie(2, 0, 9)", 8)
                        .due("tie(0, 3, 9)", 7).due("barrel(0, 10)", 3).due("tie(4, 0, 9)", 6)
                        .dues("barrel(#, 10)", 4, 1, 1, 1, 1).due("tie(4, 0, 8)", 5).due("barrel(0, 10)", 4)
                        .due("cut(0, 2)", 6).dues("barrel(#, 10)", 3, 1, 0, 1, 1));
        Sentences.of("terms: its load is its goods and 7 for each castaway, 0 to 86", () -> {
            Play x = new Play("addBarrel(0, 0, 40, 0)", "addBarrel(1, 0, 40, 0)");
            x.due("barrel(0, 12)", 0).due("load(0, 30)", 0).due("barrel(0, 12)", 30);
            for (int n = 1; n <= 8; n++) {
                x.due("addCastaway(0)", n - 1).due("barrel(0, 12)", 30 + 7 * n);
            }
            x.due("load(0, 0)", 30).due("barrel(0, 12)", 56).due("barrel(1, 12)", 0);
        });
    }

    private static void barrelWater() {
        Sentences.of("terms: it lifts lift * (100 less its water) / 100, cut: at water 0 all, at 100 nothing", () ->
                new Play("addBarrel(0, 0, 40, 9)").due("barrel(0, 11)", 40).due("pass(11)", 0)
                        .due("barrel(0, 4)", 99).due("barrel(0, 11)", 0).due("pass(1)", 0)
                        .due("barrel(0, 4)", 100).due("barrel(0, 11)", 0));
        Sentences.of("terms: what it lifts is cut towards 0", () ->
                new Play("addBarrel(0, 0, 33, 1)", "addBarrel(1, 0, 1, 1)", "addBarrel(2, 0, 40, 1)", "pass(1)")
                        .due("barrel(0, 11)", 32).due("barrel(1, 11)", 0).due("barrel(2, 11)", 39)
                        .due("pass(1)", 0).due("barrel(0, 11)", 32).due("barrel(2, 11)", 39)
                        .due("pass(1)", 0).due("barrel(0, 11)", 32).due("barrel(2, 11)", 38)
                        .due("pass(1)", 0).due("barrel(0, 11)", 31).due("pass(1)", 0)
                        .due("barrel(2, 11)", 38).due("pass(45)", 0).due("barrel(0, 11)", 16)
                        .due("barrel(2, 11)", 20));
        Sentences.of("terms: water is 0 to 100: as much more each hour as its leak, at most 100", () ->
                new Play("addBarrel(0, 0, 9, 9)", "addBarrel(1, 0, 9, 5)", "addBarrel(2, 0, 9, 0)", "pass(1)")
                        .dues("barrel(#, 4)", 9, 5, 0).due("pass(10)", 0).dues("barrel(#, 4)", 99, 55, 0)
                        .due("pass(1)", 0).dues("barrel(#, 4)", 100, 60, 0).due("pass(7)", 0)
                        .dues("barrel(#, 4)", 100, 95, 0).due("pass(1)", 0).dues("barrel(#, 4)", 100, 100, 0)
                        .due("pass(100)", 0).dues("barrel(#, 4)", 100, 100, 0));
    }

    private static void barrelFates() {
        Sentences.of("9: 0 if it floats, 1 if it is lost, 2 if it is saved", () -> {
            new Play(FATES).dues("barrel(#, 6)", 0, 0, 1, 2);
            new Play(NONE_FLOATS).dues("barrel(#, 6)", 2, 2, 1, 2);
        });
        Sentences.of("9: its piece, -1 if it is lost or saved", () ->
                new Play(FATES).dues("barrel(#, 7)", 0, 0, -1, -1));
        Sentences.of("9: a lost one is where it was last", () ->
                new Play("addBarrel(0, 0, 9, 0)", "addWater(0, 0, 30, 20, 1, -2, 0)", "pass(3)", "load(0, 10)",
                        "pass(1)").due("barrel(0, 6)", 1).due("barrel(0, 8)", 3).due("barrel(0, 9)", 4)
                        .due("pass(20)", 0).due("barrel(0, 8)", 3).due("barrel(0, 9)", 4));
        Sentences.of("9: a saved one is where it was last", () ->
                new Play("addBarrel(0, 0, 9, 0)", "addWater(0, 0, 30, 20, 2, 0, 0)", "pass(14)", "setWind(0, -1)")
                        .due("barrel(0, 8)", 28).due("pass(1)", 0).due("barrel(0, 6)", 2).due("barrel(0, 8)", 29)
                        .due("barrel(0, 9)", 9).due("addWater(0, 0, 30, 20, -2, 2, 0)", 1).due("pass(20)", 0)
                        .due("barrel(0, 8)", 29).due("barrel(0, 9)", 9));
        Sentences.of("9: what a lost one tells: water as it was, goods 0, no lashing, no load", () ->
                new Play("addBarrel(0, 0, 10, 5)", "addBarrel(1, 0, 10, 0)", "tie(0, 1, 50)", "addCastaway(0)",
                        "load(0, 3)", "load(1, 8)", "pass(3)")
                        .dues("barrel(0, #)", 0, 0, 10, 5, 15, 3, 0, 0, 0, 10, 1, 8, 10)
                        .due("load(1, 10)", 8).due("pass(1)", 0)
                        .dues("barrel(0, #)", 0, 0, 10, 5, 20, 0, 1, -1, 0, 10, 0, 8, 0)
                        .dues("barrel(1, #)", 1, 0, 10, 0, 0, 0, 1, -1, 0, 10, 0, 10, 0).due("pass(5)", 0)
                        .dues("barrel(0, #)", 0, 0, 10, 5, 20, 0, 1, -1, 0, 10, 0, 8, 0));
        Sentences.of("9: what a saved one tells: water and goods as they were, no lashing", () ->
                new Play("addBarrel(0, 0, 20, 5)", "addBarrel(1, 0, 20, 0)", "tie(0, 1, 50)", "load(0, 3)",
                        "addWater(0, 0, 30, 20, 2, 1, 0)", "pass(15)")
                        .dues("barrel(0, #)", 0, 0, 20, 5, 75, 3, 2, -1, 29, 19, 0, 5, 3).due("pass(5)", 0)
                        .dues("barrel(0, #)", 0, 0, 20, 5, 75, 3, 2, -1, 29, 19, 0, 5, 3));
    }
}
