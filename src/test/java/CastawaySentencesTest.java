/** Promises 11 to 14, sentence by sentence: addCastaway, go, bail, castaway; and the castaways of the terms. */
public final class CastawaySentencesTest {
    private static final String[] FATES = Scenes.FATES;
    private static final String[] SEVEN = Play.and(FATES, Play.each("addCastaway(#)", 0, 1, 1, 0));
    private static final String[] EIGHT = Play.and(SEVEN, "addCastaway(1)");

    public static void main(String[] args) {
        addCastaway();
        go();
        goRefused();
        bail();
        castaway();
        Sentences.end("CastawaySentencesTest");
    }

    private static void addCastaway() {
        Sentences.of("11: returns the number, from 0", () ->
                new Play(Scenes.barrels(2)).due("addCastaway(1)", 0).due("addCastaway(1)", 1)
                        .due("addCastaway(0)", 2).dues("castaway(#, 0)", 1, 1, 0, Play.INDEX)
                        .dues("castaway(#, 1)", 0, 0, 0).dues("barrel(#, 12)", 7, 14));
        Sentences.of("11: a refused one takes no number", () ->
                new Play(FATES).due("addCastaway(2)", Play.STATE).due("addCastaway(4)", Play.INDEX)
                        .due("addCastaway(1)", 3).due("count(4)", 4));
        Sentences.of("11: the castaway comes at once, though the barrel can't lift it", () ->
                new Play("addBarrel(0, 0, 1, 0)", "addCastaway(0)").due("barrel(0, 12)", 7).due("barrel(0, 6)", 0)
                        .due("count(5)", 1));
        Sentences.of("11: IndexOutOfBoundsException if there is no such barrel", () -> {
            Play.answers(FATES, 3, "addCastaway(0)", "addCastaway(1)");
            Play.refuses(FATES, Play.INDEX, Play.outside("addCastaway(#)", 0, 3));
            Play.refuses(Scenes.NEW, Play.INDEX, "addCastaway(0)");
            Play.answers(Scenes.barrels(24), 0, "addCastaway(23)");
            Play.refuses(Scenes.barrels(24), Play.INDEX, "addCastaway(24)");
        });
        Sentences.of("11: IllegalStateException if it does not float: lost", () ->
                Play.refuses(FATES, Play.STATE, "addCastaway(2)"));
        Sentences.of("11: IllegalStateException if it does not float: saved", () ->
                Play.refuses(FATES, Play.STATE, "addCastaway(3)"));
        Sentences.of("terms: at most 8 castaways, 0 to 7; 11: IllegalStateException if there are 8", () -> {
            Play.answers(SEVEN, 7, "addCastaway(0)", "addCastaway(1)");
            Play.refuses(EIGHT, Play.STATE, "addCastaway(0)", "addCastaway(1)");
            new Play(EIGHT).due("castaway(7, 0)", 1).due("count(4)", 8).due("count(5)", 6);
        });
        Sentences.of("11: there are 8, also if all of them are lost", () -> {
            String[] gone = Play.and(Scenes.times(8, "addCastaway(0)"), "pass(1)", "addBarrel(1, 0, 40, 0)");
            gone = Play.and(new String[] {"addBarrel(0, 0, 40, 0)"}, gone);
            new Play(gone).due("count(5)", 0).due("count(4)", 8).due("barrel(1, 6)", 0);
            Play.refuses(gone, Play.STATE, "addCastaway(1)");
        });
        Sentences.of("11: with 8, no such barrel is told first", () ->
                Play.refuses(EIGHT, Play.INDEX, "addCastaway(4)", "addCastaway(-1)"));
    }

    private static void go() {
        Sentences.of("12: goes over a lashing, and returns how many castaways are on it then", () ->
                new Play(FATES).due("go(2, 1)", 1).due("castaway(2, 0)", 1).due("barrel(0, 12)", 10)
                        .due("barrel(1, 12)", 17).due("addCastaway(0)", 3).due("go(3, 1)", 2)
                        .due("barrel(1, 12)", 24).due("go(2, 0)", 1).due("castaway(2, 0)", 0)
                        .due("castaway(3, 0)", 1));
        Sentences.of("12: all 8 on one barrel", () -> {
            Play x = new Play(Play.and(Scenes.barrels(2), "tie(1, 0, 9)"));
            for (int n = 0; n < 8; n++) {
                x.due("addCastaway(0)", n);
            }
            for (int n = 0; n < 8; n++) {
                x.due("go(" + n + ", 1)", n + 1);
            }
            x.due("barrel(0, 12)", 0).due("barrel(1, 12)", 56);
        });
        Sentences.of("12: one lashing at a time, from the smaller number to the greater one and back", () ->
                new Play(Play.and(Scenes.barrels(3), "tie(0, 1, 9)", "tie(1, 2, 9)", "addCastaway(0)"))
                        .due("go(0, 2)", Play.STATE).due("go(0, 1)", 1).due("go(0, 2)", 1)
                        .due("go(0, 0)", Play.STATE).due("go(0, 1)", 1).due("go(0, 0)", 1));
    }

    private static void goRefused() {
        Sentences.of("12: IndexOutOfBoundsException if there is no such castaway", () -> {
            Play.answers(FATES, 1, "go(2, 1)");
            Play.refuses(FATES, Play.INDEX, Play.outside("go(#, 1)", 0, 2));
            Play.refuses(Scenes.barrels(2), Play.INDEX, "go(0, 1)");
            Play.refuses(EIGHT, Play.INDEX, "go(8, 0)");
            Play.answers(EIGHT, 4, "go(7, 0)");
        });
        Sentences.of("12: IndexOutOfBoundsException if there is no such barrel", () -> {
            Play.answers(FATES, 1, "go(2, 1)");
            Play.refuses(FATES, Play.INDEX, Play.outside("go(2, #)", 0, 3));
            Play.refuses(Scenes.NEW, Play.INDEX, "go(0, 0)");
        });
        Sentences.of("12: IllegalStateException if the castaway is lost", () ->
                Play.refuses(FATES, Play.STATE, "go(0, 0)", "go(0, 1)", "go(0, 2)"));
        Sentences.of("12: IllegalStateException if the castaway is saved", () ->
                Play.refuses(FATES, Play.STATE, "go(1, 0)", "go(1, 1)", "go(1, 3)"));
        Sentences.of("12: IllegalStateException if there is no lashing between both barrels", () -> {
            Play.refuses(FATES, Play.STATE, "go(2, 2)", "go(2, 3)");
            Play.refuses(Play.and(FATES, "cut(0, 1)"), Play.STATE, "go(2, 1)");
            Play.refuses(Play.and(Scenes.barrels(3), "tie(1, 2, 9)", "addCastaway(0)"), Play.STATE, "go(0, 1)",
                    "go(0, 2)");
        });
        Sentences.of("12: no lashing: it broke", () ->
                Play.refuses(Play.and(FATES, "tie(0, 1, 5)", "pass(1)"), Play.STATE, "go(2, 1)"));
        Sentences.of("12: no lashing to the barrel where the castaway is", () ->
                Play.refuses(FATES, Play.STATE, "go(2, 0)"));
        Sentences.of("12: no such barrel is told ahead of a lost or saved castaway", () ->
                Play.refuses(FATES, Play.INDEX, "go(0, 4)", "go(0, -1)", "go(1, 4)", "go(1, -1)"));
        Sentences.of("12: no such castaway, to a barrel that does not float, is told so", () ->
                Play.refuses(FATES, Play.INDEX, "go(3, 2)", "go(-1, 3)"));
    }

    /** How much water a barrel with this leak has after so many hours, and after it was bailed out. */
    private static void bailed(int leak, int hours, int before, int then) {
        new Play("addBarrel(0, 0, 40, " + leak + ")", "addBarrel(1, 0, 40, 9)", "addCastaway(0)",
                "pass(" + hours + ")").due("barrel(0, 4)", before).due("bail(0)", then)
                .due("barrel(0, 4)", then).due("barrel(1, 4)", Math.min(100, 9 * hours));
    }

    private static void bail() {
        Sentences.of("13: its water is 25 less, at least 0", () -> {
            bailed(8, 3, 24, 0);
            bailed(5, 5, 25, 0);
            bailed(2, 13, 26, 1);
            bailed(1, 1, 1, 0);
            bailed(0, 9, 0, 0);
        });
        Sentences.of("13: a full barrel, 25 by 25", () ->
                new Play("addBarrel(0, 0, 40, 9)", "pass(12)", "addCastaway(0)", "addCastaway(0)")
                        .due("barrel(0, 4)", 100).due("bail(0)", 75).due("bail(1)", 50).due("bail(0)", 25)
                        .due("bail(0)", 0).due("bail(1)", 0).due("barrel(0, 11)", 40));
        Sentences.of("13: the barrel on which this one is, not the one where it was", () ->
                new Play("addBarrel(0, 0, 40, 9)", "addBarrel(1, 0, 40, 8)", "tie(0, 1, 50)", "addCastaway(0)",
                        "pass(4)", "go(0, 1)").due("bail(0)", 7).due("barrel(0, 4)", 36).due("barrel(1, 4)", 7));
        Sentences.of("13: IndexOutOfBoundsException if there is no such castaway", () -> {
            Play.answers(FATES, 0, "bail(2)");
            Play.refuses(FATES, Play.INDEX, Play.outside("bail(#)", 0, 2));
            Play.refuses(Scenes.barrels(1), Play.INDEX, "bail(0)");
            Play.answers(EIGHT, 0, "bail(7)");
            Play.refuses(EIGHT, Play.INDEX, "bail(8)");
        });
        String[] leaky = {"addBarrel(0, 0, 20, 1)", "addBarrel(1, 0, 7, 9)", "addCastaway(0)", "addCastaway(1)",
            "addWater(0, 0, 30, 20, 2, 0, 0)", "pass(15)"};
        Sentences.of("13: IllegalStateException if the castaway is lost", () -> {
            new Play(leaky).due("castaway(1, 1)", 1).due("barrel(1, 4)", 9);
            Play.refuses(leaky, Play.STATE, "bail(1)");
            Play.refuses(FATES, Play.STATE, "bail(0)");
        });
        Sentences.of("13: IllegalStateException if the castaway is saved", () -> {
            new Play(leaky).due("castaway(0, 1)", 2).due("barrel(0, 4)", 15);
            Play.refuses(leaky, Play.STATE, "bail(0)");
            Play.refuses(FATES, Play.STATE, "bail(1)");
        });
    }

    private static void castaway() {
        Sentences.of("14: IndexOutOfBoundsException if there is no such castaway", () -> {
            Play.answers(FATES, 0, "castaway(2, 0)", "castaway(2, 1)");
            Play.answers(FATES, -1, "castaway(0, 0)");
            Play.refuses(FATES, Play.INDEX, Play.outside("castaway(#, 0)", 0, 2));
            Play.refuses(Scenes.barrels(24), Play.INDEX, "castaway(0, 0)", "castaway(0, 1)");
            Play.answers(EIGHT, 1, "castaway(7, 0)");
            Play.refuses(EIGHT, Play.INDEX, "castaway(8, 0)");
        });
        Sentences.of("14: IndexOutOfBoundsException if what is not 0 to 1", () -> {
            new Play(FATES).dues("castaway(2, #)", 0, 0);
            Play.refuses(FATES, Play.INDEX, Play.outside("castaway(2, #)", 0, 1));
            Play.refuses(FATES, Play.INDEX, Play.outside("castaway(0, #)", 0, 1));
        });
        Sentences.of("14: both wrong is refused as well", () ->
                Play.refuses(FATES, Play.INDEX, "castaway(3, 2)", "castaway(-1, -1)"));
        Sentences.of("14: 0 if afloat, on a barrel", () ->
                new Play(Scenes.FULL).dues("castaway(#, 0)", 0, 1, 2, 3, 8, 9, 10, 23)
                        .dues("castaway(#, 1)", 0, 0, 0, 0, 0, 0, 0, 0));
        Sentences.of("14: the barrel is -1 if lost, which is 1", () ->
                new Play(FATES).dues("castaway(0, #)", -1, 1));
        Sentences.of("14: the barrel is -1 if saved, which is 2", () ->
                new Play(FATES).dues("castaway(1, #)", -1, 2));
        Sentences.of("14: who is saved or lost stays so", () ->
                new Play(FATES).due("load(0, 30)", 10).due("load(1, 30)", 10).due("pass(50)", 0)
                        .dues("castaway(#, 0)", -1, -1, -1).dues("castaway(#, 1)", 1, 2, 1));
    }
}
