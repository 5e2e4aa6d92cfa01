/** Promises 6, 7 and 10, sentence by sentence: tie, cut, lashing; and the lashings of the terms. */
public final class LashingSentencesTest {
    private static final String[] FATES = Scenes.FATES;
    private static final String[] TWO = {"addBarrel(0, 0, 20, 0)", "addBarrel(1, 0, 20, 0)"};
    private static final String[] ONE_ROPE = Play.and(Play.and(Scenes.barrels(3), "tie(0, 1, 50)"),
            Scenes.times(8, "tie(1, 2, 9)"));
    private static final String[] NO_ROPE = Play.and(ONE_ROPE, "tie(2, 1, 8)");

    public static void main(String[] args) {
        tie();
        sideBySide();
        placeOfTheSea();
        ropes();
        tieRefused();
        tieOrder();
        cut();
        cutRefused();
        lashing();
        stress();
        Sentences.end("LashingSentencesTest");
    }

    private static void tie() {
        Sentences.of("6: ties a lashing with a rope, and returns how many ropes are left", () ->
                new Play(TWO).due("tie(0, 1, 7)", 9).due("count(9)", 9).due("count(7)", 1)
                        .due("lashing(0, 1, 0)", 7).due("lashing(1, 0, 0)", 7).due("lashing(0, 1, 1)", 0));
        Sentences.of("6: also from the greater number to the smaller one", () ->
                new Play(TWO).due("tie(1, 0, 7)", 9).due("lashing(0, 1, 0)", 7).due("lashing(1, 0, 0)", 7)
                        .due("count(7)", 1));
        Sentences.of("6: one that is there is made anew: its wear is 0, the strength this one", () ->
                new Play(Play.and(TWO, "tie(0, 1, 50)", "addWater(0, 0, 30, 20, 0, 0, 8)", "pass(3)"))
                        .due("lashing(0, 1, 1)", 6).due("tie(1, 0, 9)", 8).due("lashing(0, 1, 0)", 9)
                        .due("lashing(0, 1, 1)", 0).due("count(7)", 1).due("tie(0, 1, 50)", 7)
                        .due("lashing(0, 1, 0)", 50).due("lashing(0, 1, 1)", 0).due("count(7)", 1));
        Sentences.of("terms: its wear is 0 at first, also where one was before", () ->
                new Play(Play.and(TWO, "tie(0, 1, 50)", "addWater(0, 0, 30, 20, 0, 0, 8)", "pass(3)", "cut(0, 1)"))
                        .due("tie(0, 1, 20)", 9).due("lashing(0, 1, 1)", 0).due("lashing(0, 1, 0)", 20));
        Sentences.of("6: what is tied is one piece then", () ->
                new Play(Scenes.barrels(3)).due("count(8)", 3).due("tie(1, 2, 1)", 9).due("count(8)", 2)
                        .due("piece(2, 0)", 2).due("tie(0, 1, 1)", 8).due("count(8)", 1).due("piece(2, 0)", 3));
    }

    /** Whether two barrels alone on the board, at these places, can be tied, both ways. */
    private static void beside(boolean can, int column, int row, int column2, int row2) {
        String[] scene = {"addBarrel(" + column + ", " + row + ", 9, 0)",
            "addBarrel(" + column2 + ", " + row2 + ", 9, 0)"};
        if (can) {
            Play.answers(scene, 9, "tie(0, 1, 5)", "tie(1, 0, 5)");
        } else {
            Play.refuses(scene, Play.STATE, "tie(0, 1, 5)", "tie(1, 0, 5)");
        }
    }

    private static void sideBySide() {
        Sentences.of("terms: side by side are neighbouring columns in one row", () -> {
            beside(true, 3, 3, 4, 3);
            beside(true, 0, 0, 1, 0);
            beside(true, 6, 7, 7, 7);
        });
        Sentences.of("terms: side by side are neighbouring rows in one column", () -> {
            beside(true, 3, 3, 3, 4);
            beside(true, 0, 0, 0, 1);
            beside(true, 7, 6, 7, 7);
        });
        Sentences.of("6: IllegalStateException if they are not side by side: two columns or rows off", () -> {
            beside(false, 3, 3, 5, 3);
            beside(false, 3, 3, 3, 5);
            beside(false, 0, 0, 7, 0);
            beside(false, 0, 0, 0, 7);
        });
        Sentences.of("6: not side by side: crosswise", () -> {
            beside(false, 3, 3, 4, 4);
            beside(false, 3, 3, 2, 4);
            beside(false, 0, 0, 7, 7);
        });
        Sentences.of("6: not side by side: the end of a row and the beginning of the next one", () -> {
            beside(false, 7, 0, 0, 1);
            beside(false, 7, 6, 0, 7);
        });
        Sentences.of("6: not side by side, though in one piece", () ->
                Play.refuses(Play.and(Scenes.barrels(3), "tie(0, 1, 5)", "tie(1, 2, 5)"), Play.STATE,
                        "tie(0, 2, 5)"));
    }

    private static void placeOfTheSea() {
        String[] heavy = Play.and(TWO, "load(0, 10)");
        Sentences.of("6: IllegalStateException if they are not at one place of the sea, by a column", () ->
                Play.refuses(Play.and(heavy, "setWind(1, 0)", "pass(1)"), Play.STATE, "tie(0, 1, 5)", "tie(1, 0, 5)"));
        Sentences.of("6: not at one place of the sea, by a row", () -> {
            Play.refuses(Play.and(heavy, "setWind(0, 1)", "pass(1)"), Play.STATE, "tie(0, 1, 5)", "tie(1, 0, 5)");
            Play.refuses(Play.and(heavy, "setWind(0, -1)", "pass(1)"), Play.STATE, "tie(0, 1, 5)");
        });
        Sentences.of("6: not at one place of the sea, where a column more makes up for a row less", () ->
                Play.refuses(Play.and(heavy, "setWind(1, -1)", "pass(1)"), Play.STATE, "tie(0, 1, 5)"));
        Sentences.of("6: at one place of the sea again, after they were apart", () ->
                Play.answers(Play.and(heavy, "setWind(1, -1)", "pass(1)", "setWind(-1, 1)", "pass(1)"), 9,
                        "tie(0, 1, 5)"));
        Sentences.of("6: at one place of the sea, far from where they came", () ->
                Play.answers(Play.and(TWO, "setWind(2, 1)", "pass(9)"), 9, "tie(0, 1, 5)"));
    }

    private static void ropes() {
        Sentences.of("terms: 10 ropes at first, and each tie takes one, until 0 are left", () -> {
            Play x = new Play(TWO);
            for (int left = 9; left >= 0; left--) {
                x.due("tie(0, 1, 5)", left).due("count(9)", left);
            }
            x.due("tie(0, 1, 5)", Play.STATE).due("count(9)", 0);
        });
        Sentences.of("6: IllegalStateException if there is no rope", () -> {
            Play.answers(ONE_ROPE, 0, "tie(1, 2, 5)", "tie(2, 1, 5)");
            Play.refuses(NO_ROPE, Play.STATE, "tie(1, 2, 5)", "tie(2, 1, 5)");
        });
        Sentences.of("6: if there is no rope, none is made anew either", () ->
                Play.refuses(NO_ROPE, Play.STATE, "tie(0, 1, 50)", "tie(1, 0, 1)"));
        Sentences.of("6: a rope that a cut gave ties again", () ->
                new Play(NO_ROPE).due("cut(0, 1)", 1).due("tie(1, 2, 4)", 0).due("tie(0, 1, 4)", Play.STATE));
    }

    private static void tieRefused() {
        Sentences.of("6: IndexOutOfBoundsException if there is no barrel a", () -> {
            Play.answers(FATES, 8, "tie(0, 1, 5)");
            Play.refuses(FATES, Play.INDEX, Play.outside("tie(#, 1, 5)", 0, 3));
            Play.refuses(Scenes.FULL, Play.INDEX, "tie(24, 23, 5)");
        });
        Sentences.of("6: IndexOutOfBoundsException if there is no barrel b", () -> {
            Play.answers(FATES, 8, "tie(1, 0, 5)");
            Play.refuses(FATES, Play.INDEX, Play.outside("tie(1, #, 5)", 0, 3));
            Play.refuses(Scenes.NEW, Play.INDEX, "tie(0, 1, 5)");
        });
        Sentences.of("6: the last of 24 barrels is there", () ->
                new Play(Scenes.FULL).due("cut(0, 1)", 1).due("tie(22, 23, 5)", 0));
        Sentences.of("6: IllegalArgumentException if both are the same", () ->
                Play.refuses(FATES, Play.ARGUMENT, "tie(0, 0, 5)", "tie(1, 1, 50)", "tie(3, 3, 1)"));
        Sentences.of("6: IllegalArgumentException if strength is not 1 to 50", () -> {
            Play.answers(FATES, 8, Play.each("tie(0, 1, #)", 1, 50));
            Play.refuses(FATES, Play.ARGUMENT, Play.outside("tie(0, 1, #)", 1, 50));
            new Play(FATES).due("tie(0, 1, 1)", 8).due("lashing(0, 1, 0)", 1).due("tie(0, 1, 50)", 7)
                    .due("lashing(0, 1, 0)", 50);
        });
        String[] lost = {"addBarrel(0, 0, 20, 0)", "addBarrel(1, 0, 6, 0)", "addCastaway(1)", "pass(1)"};
        Sentences.of("6: IllegalStateException if one of both does not float: lost", () -> {
            new Play(lost).due("barrel(1, 8)", 0).due("barrel(1, 9)", 10);
            Play.refuses(lost, Play.STATE, "tie(0, 1, 5)", "tie(1, 0, 5)");
        });
        Sentences.of("6: IllegalStateException if one of both does not float: saved", () ->
                Play.refuses(FATES, Play.STATE, "tie(1, 3, 5)", "tie(3, 1, 5)"));
        Sentences.of("6: neither of both floats", () -> {
            Play.refuses(Play.and(TWO, "load(0, 21)", "load(1, 21)", "pass(1)"), Play.STATE, "tie(0, 1, 5)");
            Play.refuses(Play.and(TWO, "setWind(2, 0)", "pass(15)"), Play.STATE, "tie(0, 1, 5)");
        });
    }

    private static void tieOrder() {
        Sentences.of("6: no such barrel is told ahead of the same ones and a wrong strength", () ->
                Play.refuses(FATES, Play.INDEX, "tie(4, 4, 5)", "tie(-1, -1, 5)", "tie(4, 0, 0)", "tie(0, 4, 51)",
                        "tie(-1, 0, -1)"));
        Sentences.of("6: no such barrel is told ahead of one that does not float, and of no rope", () -> {
            Play.refuses(FATES, Play.INDEX, "tie(2, 4, 5)", "tie(4, 3, 5)");
            Play.refuses(NO_ROPE, Play.INDEX, "tie(0, 3, 5)", "tie(-1, 0, 5)");
        });
        Sentences.of("6: the same ones are told ahead of those that don't float, and of no rope", () -> {
            Play.refuses(FATES, Play.ARGUMENT, "tie(2, 2, 5)", "tie(3, 3, 5)");
            Play.refuses(NO_ROPE, Play.ARGUMENT, "tie(1, 1, 5)");
        });
        Sentences.of("6: a wrong strength is told ahead of one that does not float", () ->
                Play.refuses(FATES, Play.ARGUMENT, "tie(1, 2, 0)", "tie(3, 1, 51)"));
        Sentences.of("6: a wrong strength is told ahead of those not side by side", () ->
                Play.refuses(Scenes.barrels(3), Play.ARGUMENT, "tie(0, 2, 0)", "tie(2, 0, 51)"));
        Sentences.of("6: a wrong strength is told ahead of those not at one place", () ->
                Play.refuses(Play.and(TWO, "load(0, 10)", "setWind(1, 0)", "pass(1)"), Play.ARGUMENT, "tie(0, 1, 51)"));
        Sentences.of("6: a wrong strength is told ahead of no rope", () ->
                Play.refuses(NO_ROPE, Play.ARGUMENT, "tie(0, 1, 0)", "tie(0, 1, 51)"));
    }

    private static void cut() {
        Sentences.of("7: cuts a lashing, which gives a rope, and returns how many there are", () ->
                new Play(NO_ROPE).due("cut(1, 2)", 1).due("count(9)", 1).due("lashing(1, 2, 0)", 0)
                        .due("count(7)", 1).due("lashing(0, 1, 0)", 50).due("cut(0, 1)", 2).due("count(9)", 2)
                        .due("count(7)", 0));
        Sentences.of("7: also from the greater number to the smaller one", () ->
                new Play(NO_ROPE).due("cut(2, 1)", 1).due("lashing(1, 2, 0)", 0).due("count(7)", 1));
        Sentences.of("7: a worn one gives a whole rope, too", () ->
                new Play(Play.and(TWO, "tie(0, 1, 20)", "addWater(0, 0, 30, 20, 0, 0, 8)", "pass(5)"))
                        .due("lashing(0, 1, 1)", 10).due("cut(0, 1)", 10));
        Sentences.of("7: what hung together by it alone is two pieces, what hangs otherwise is one", () -> {
            String[] ring = {"addBarrel(0, 0, 9, 0)", "addBarrel(1, 0, 9, 0)", "addBarrel(1, 1, 9, 0)",
                "addBarrel(0, 1, 9, 0)", "tie(0, 1, 5)", "tie(1, 2, 5)", "tie(2, 3, 5)", "tie(3, 0, 5)"};
            new Play(ring).due("count(8)", 1).due("cut(0, 3)", 7).due("count(8)", 1).due("piece(3, 0)", 4)
                    .due("cut(1, 2)", 8).due("count(8)", 2).dues("barrel(#, 7)", 0, 0, 2, 2);
        });
        Sentences.of("7: a cut lashing did not break by waves", () ->
                new Play(NO_ROPE).due("cut(1, 2)", 1).due("count(10)", 0).due("pass(1)", 0).due("count(10)", 0));
        Sentences.of("7: there are at most 40 ropes", () -> {
            atMost40(38, 39);
            atMost40(39, 40);
            atMost40(40, 40);
        });
        Sentences.of("7: no run of calls brings more ropes than 10", () -> {
            Play x = new Play(TWO);
            for (int n = 0; n < 100; n++) {
                x.due("tie(0, 1, 5)", 9).due("cut(0, 1)", 10);
            }
            x.due("cut(0, 1)", Play.STATE).due("count(9)", 10);
        });
    }

    /** A lashing takes a rope before it gives one, so so many ropes can only be put into the object. */
    private static void atMost40(int before, int then) {
        BarrelRaft x = new BarrelRaft();
        x.addBarrel(0, 0, 9, 0);
        x.addBarrel(1, 0, 9, 0);
        x.tie(0, 1, 9);
        if (!Inside.putRopes(x, before)) {
            System.out.println("7: the ropes of the object were not found, so their limit is not tried");
            return;
        }
        int answer = x.cut(1, 0);
        if (answer != then || x.count(9) != then) {
            Sentences.fails("with " + before + " ropes, cut answered " + answer + ", due is " + then);
        }
    }

    private static void cutRefused() {
        Sentences.of("7: IndexOutOfBoundsException if there is no barrel a", () -> {
            Play.answers(FATES, 10, "cut(0, 1)");
            Play.refuses(FATES, Play.INDEX, Play.outside("cut(#, 1)", 0, 3));
            Play.refuses(Scenes.FULL, Play.INDEX, "cut(24, 23)");
        });
        Sentences.of("7: IndexOutOfBoundsException if there is no barrel b", () -> {
            Play.answers(FATES, 10, "cut(1, 0)");
            Play.refuses(FATES, Play.INDEX, Play.outside("cut(1, #)", 0, 3));
            Play.refuses(Scenes.NEW, Play.INDEX, "cut(0, 1)");
        });
        Sentences.of("7: no such barrel is told ahead of no lashing", () ->
                Play.refuses(FATES, Play.INDEX, "cut(4, 4)", "cut(-1, -1)", "cut(2, 4)", "cut(-1, 3)"));
        Sentences.of("7: IllegalStateException if there is no lashing between them: never tied", () -> {
            Play.refuses(TWO, Play.STATE, "cut(0, 1)", "cut(1, 0)");
            Play.refuses(Play.and(Scenes.barrels(3), "tie(0, 1, 5)", "tie(1, 2, 5)"), Play.STATE, "cut(0, 2)");
            Play.refuses(FATES, Play.STATE, "cut(1, 2)", "cut(3, 1)");
        });
        Sentences.of("7: IllegalStateException if there is no lashing between them: both are the same", () ->
                Play.refuses(FATES, Play.STATE, "cut(0, 0)", "cut(2, 2)", "cut(3, 3)"));
        Sentences.of("7: no lashing: it is cut already", () ->
                Play.refuses(Play.and(FATES, "cut(0, 1)"), Play.STATE, "cut(0, 1)", "cut(1, 0)"));
        Sentences.of("7: no lashing: it broke", () ->
                Play.refuses(Play.and(TWO, "tie(0, 1, 5)", "addWater(0, 0, 30, 20, 0, 0, 6)", "pass(1)"), Play.STATE,
                        "cut(0, 1)"));
        Sentences.of("7: no lashing: the piece is lost", () ->
                Play.refuses(Play.and(TWO, "tie(0, 1, 5)", "load(0, 30)", "load(1, 11)", "pass(1)"), Play.STATE,
                        "cut(0, 1)"));
        Sentences.of("7: no lashing: the piece is saved", () ->
                Play.refuses(Play.and(TWO, "tie(0, 1, 5)", "setWind(2, 0)", "pass(15)"), Play.STATE, "cut(0, 1)"));
    }

    private static void lashing() {
        Sentences.of("10: IndexOutOfBoundsException if there is no barrel a", () -> {
            Play.answers(FATES, 50, "lashing(0, 1, 0)");
            Play.refuses(FATES, Play.INDEX, Play.outside("lashing(#, 1, 0)", 0, 3));
            Play.refuses(Scenes.FULL, Play.INDEX, "lashing(24, 23, 0)");
        });
        Sentences.of("10: IndexOutOfBoundsException if there is no barrel b", () -> {
            Play.answers(FATES, 50, "lashing(1, 0, 0)");
            Play.refuses(FATES, Play.INDEX, Play.outside("lashing(1, #, 0)", 0, 3));
            Play.refuses(Scenes.NEW, Play.INDEX, "lashing(0, 1, 0)", "lashing(0, 0, 0)");
        });
        Sentences.of("10: IndexOutOfBoundsException if what is not 0 to 2", () -> {
            new Play(FATES).dues("lashing(0, 1, #)", 50, 0, 6);
            Play.refuses(FATES, Play.INDEX, Play.outside("lashing(0, 1, #)", 0, 2));
        });
        Sentences.of("10: what is not 0 to 2, also where there is no lashing", () ->
                Play.refuses(FATES, Play.INDEX, "lashing(1, 2, 3)", "lashing(0, 0, -1)", "lashing(1, 3, 3)"));
        Sentences.of("10: all 0 if there is none: never tied, though all else is there", () ->
                new Play(Play.and(TWO, "addWater(0, 0, 30, 20, 0, 0, 20)", "load(0, 9)"))
                        .dues("lashing(0, 1, #)", 0, 0, 0).dues("lashing(1, 0, #)", 0, 0, 0));
        Sentences.of("10: all 0 if there is none: the same, not side by side, lost, saved", () ->
                new Play(FATES).dues("lashing(0, 0, #)", 0, 0, 0).dues("lashing(0, 3, #)", 0, 0, 0)
                        .dues("lashing(1, 2, #)", 0, 0, 0).dues("lashing(3, 1, #)", 0, 0, 0)
                        .dues("lashing(2, 3, #)", 0, 0, 0));
        Sentences.of("10: all 0 if there is none: cut", () ->
                new Play(Play.and(FATES, "cut(0, 1)")).dues("lashing(0, 1, #)", 0, 0, 0));
        Sentences.of("10: all 0 if there is none: it broke", () ->
                new Play(Play.and(TWO, "tie(0, 1, 9)", "addWater(0, 0, 30, 20, 0, 0, 9)", "pass(1)"))
                        .dues("lashing(0, 1, #)", 9, 2, 9).due("pass(1)", 1).dues("lashing(0, 1, #)", 0, 0, 0));
        Sentences.of("10: the strength at both ends, 1 and 50, with the wear beside it", () ->
                new Play(Play.and(Scenes.barrels(3), "tie(0, 1, 1)", "tie(1, 2, 50)",
                        "addWater(0, 0, 30, 20, 0, 0, 1)", "pass(1)", "addWater(0, 0, 30, 20, 0, 0, 20)"))
                        .dues("lashing(0, 1, #)", 1, 0, 20).due("pass(1)", 1).dues("lashing(1, 2, #)", 50, 5, 20));
    }

    private static void stress() {
        String[] tied = Play.and(TWO, "tie(0, 1, 50)");
        Sentences.of("10: the stress is the waves where the piece is, 0 to 20", () ->
                new Play(tied).due("lashing(0, 1, 2)", 0).due("addWater(0, 10, 1, 1, 0, 0, 1)", 0)
                        .due("lashing(0, 1, 2)", 1).due("addWater(0, 10, 1, 1, 0, 0, 20)", 1)
                        .due("lashing(0, 1, 2)", 20).due("addWater(1, 10, 1, 1, 0, 0, 7)", 2)
                        .due("addWater(0, 9, 1, 1, 0, 0, 7)", 3).due("lashing(0, 1, 2)", 20));
        Sentences.of("10: and half (cut) of the difference of the loads", () ->
                new Play(tied).due("load(0, 1)", 0).due("lashing(0, 1, 2)", 0).due("load(0, 2)", 1)
                        .due("lashing(0, 1, 2)", 1).due("load(0, 3)", 2).due("lashing(0, 1, 2)", 1)
                        .due("load(0, 4)", 3).due("lashing(0, 1, 2)", 2).due("load(1, 4)", 0)
                        .due("lashing(0, 1, 2)", 0).due("load(0, 30)", 4).due("lashing(0, 1, 2)", 13));
        Sentences.of("10: of the difference without its sign", () ->
                new Play(tied).due("load(1, 3)", 0).due("lashing(0, 1, 2)", 1).due("lashing(1, 0, 2)", 1)
                        .due("load(1, 30)", 3).due("lashing(0, 1, 2)", 15).due("addCastaway(0)", 0)
                        .due("lashing(0, 1, 2)", 11).due("addCastaway(1)", 1).due("lashing(0, 1, 2)", 15));
        Sentences.of("10: as all is now: it has not been in an hour yet, and the water that comes does not count", () ->
                new Play("addBarrel(0, 0, 40, 9)", "addBarrel(1, 0, 40, 0)", "tie(0, 1, 50)", "load(0, 9)",
                        "addWater(0, 10, 1, 1, 2, 0, 5)", "addWater(2, 10, 1, 1, 0, 0, 11)")
                        .due("lashing(0, 1, 2)", 9).due("pass(1)", 0).due("lashing(0, 1, 2)", 15)
                        .due("lashing(0, 1, 1)", 2).due("pass(1)", 0).due("lashing(0, 1, 1)", 5)
                        .due("lashing(0, 1, 2)", 15));
    }
}
