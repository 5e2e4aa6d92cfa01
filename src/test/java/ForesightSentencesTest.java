import java.math.BigInteger;

/** Promises 20 to 23, sentence by sentence: foresee, advise, spare, digest. */
public final class ForesightSentencesTest {
    private static final String[] FATES = Scenes.FATES;

    /**
     * Barrel 0 can't carry its castaway without 1; their lashing breaks in hour 3, and 0 is lost in hour 4.
     * Barrel 2, alone, is lost in hour 6. What is left is saved in hour 15.
     */
    private static final String[] COMING = {
        "addWater(0, 0, 30, 20, 2, 0, 8)", "addBarrel(0, 0, 6, 0)", "addBarrel(1, 0, 30, 0)",
        "addBarrel(5, 5, 10, 8)", "addBarrel(6, 6, 40, 0)", "tie(0, 1, 14)", "addCastaway(0)", "addCastaway(3)",
        "load(2, 6)"};

    /** Three pairs, each with a barrel that can't carry its castaway alone, and a lashing that breaks at once. */
    private static final String[] PAIRS = {
        "addWater(0, 0, 30, 20, 2, 0, 0)", "addBarrel(0, 0, 30, 0)", "addBarrel(1, 0, 6, 0)",
        "addBarrel(3, 0, 30, 0)", "addBarrel(4, 0, 6, 0)", "addBarrel(6, 0, 30, 0)", "addBarrel(7, 0, 6, 0)",
        "tie(4, 5, 2)", "tie(2, 3, 2)", "tie(0, 1, 2)", "addCastaway(1)", "addCastaway(3)", "addCastaway(5)"};

    /**
     * The pair of barrels 0 and 1, with a lashing that breaks at once, comes ashore in hour 50: 9 hours down
     * the first column, 12 up the next one, and 29 from column to column.
     */
    private static final String[] SLOW = {
        "addWater(0, 0, 30, 20, 1, 0, 0)", "addWater(0, 10, 1, 9, 0, 1, 0)", "addWater(1, 8, 1, 12, 0, -1, 0)",
        "addBarrel(0, 0, 30, 0)", "addBarrel(1, 0, 6, 0)", "addCastaway(1)", "tie(0, 1, 2)"};

    public static void main(String[] args) {
        foresee();
        foreseeFar();
        foreseeRefused();
        advise();
        adviseAnew();
        adviseFirst();
        adviseNone();
        adviseRefused();
        spare();
        digest();
        Sentences.end("ForesightSentencesTest");
    }

    /** What is foreseen in so many hours, as the four answers; the hours go by in another object. */
    private static void then(String[] scene, int hours, int afloat, int saved, int pieces, int lashings) {
        new Play(scene).dues("foresee(" + hours + ", #)", afloat, saved, pieces, lashings);
        new Play(Play.and(scene, "pass(" + hours + ")")).due("count(2)", afloat).due("count(6)", saved)
                .due("count(8)", pieces).due("count(7)", lashings);
    }

    private static void foresee() {
        Sentences.of("20: lashings and pieces then: one breaks in hour 3, not in hour 2", () -> {
            then(COMING, 2, 4, 0, 3, 1);
            then(COMING, 3, 4, 0, 4, 0);
        });
        Sentences.of("20: barrels that float then: one is lost in hour 4, one in hour 6, not before", () -> {
            then(COMING, 4, 3, 0, 3, 0);
            then(COMING, 5, 3, 0, 3, 0);
            then(COMING, 6, 2, 0, 2, 0);
        });
        Sentences.of("20: castaways who are saved then: in hour 15, not in hour 14", () -> {
            then(COMING, 14, 2, 0, 2, 0);
            then(COMING, 15, 0, 1, 0, 0);
        });
        Sentences.of("20: with nothing in the sea", () -> {
            then(Scenes.NEW, 1, 0, 0, 0, 0);
            then(Scenes.NEW, 100, 0, 0, 0, 0);
        });
        Sentences.of("20: with all that there can be in the sea", () -> {
            then(Scenes.FULL, 1, 24, 0, 14, 10);
            then(Scenes.FULL, 100, 24, 0, 14, 10);
        });
        Sentences.of("20: who is saved already is saved then", () ->
                new Play(FATES).due("foresee(1, 1)", 1).due("foresee(100, 1)", 2));
        Sentences.of("20: the last of 24 barrels and of 8 castaways goes as all others: its load and its water", () -> {
            String[] all = Play.and(Scenes.barrels(23), "addBarrel(7, 7, 40, 9)", "load(23, 30)");
            then(all, 2, 24, 0, 24, 0);
            then(all, 3, 23, 0, 23, 0);
            String[] later = Play.and(all, "load(23, 0)", "pass(9)", "load(23, 4)");
            then(later, 1, 24, 0, 24, 0);
            then(later, 2, 23, 0, 23, 0);
            String[] people = Play.and(Scenes.barrels(23), "addBarrel(7, 7, 40, 0)", "load(23, 27)");
            then(Play.and(people, Play.each("addCastaway(#)", 0, 1, 2, 3, 4, 5, 23)), 1, 24, 0, 24, 0);
            then(Play.and(people, Play.each("addCastaway(#)", 0, 1, 2, 3, 4, 5, 23, 23)), 1, 23, 0, 23, 0);
        });
        Sentences.of("20: the last of 24 barrels and of 8 castaways: from where it is, and saved or lost before", () -> {
            String[] ahead = Play.and(Scenes.barrels(24), Scenes.times(8, "addCastaway(23)"));
            ahead = Play.and(Play.and(ahead, "addWater(0, 0, 30, 20, 2, 0, 0)"), Play.each("load(#, 10)", 0, 1, 2));
            then(ahead, 1, 23, 0, 23, 0);
            then(Play.and(ahead, "pass(1)"), 1, 23, 0, 23, 0);
            String[] sail = Play.and(Scenes.barrels(24), Scenes.times(7, "addCastaway(0)"));
            sail = Play.and(sail, "load(0, 30)", "addCastaway(23)", "setWind(2, 1)", "pass(14)");
            then(sail, 1, 0, 1, 0, 0);
            then(Play.and(sail, "pass(1)"), 1, 0, 1, 0, 0);
            String[] low = Play.and(Scenes.barrels(23), "addBarrel(7, 7, 6, 0)", "addCastaway(23)", "pass(1)");
            then(low, 1, 23, 0, 23, 0);
            then(Play.and(low, "setWind(2, 0)"), 100, 0, 0, 0, 0);
            String[] up = Play.and(Scenes.barrels(24), "setWind(0, -2)", "pass(2)", "setWind(2, 0)");
            then(Play.and(up, "addWater(10, 6, 1, 1, -2, 0, 0)"), 100, 24, 0, 24, 0);
        });
        Sentences.of("20: if nothing is done; nothing is changed", () ->
                Play.changesNothing(COMING, "foresee(1, 0)", "foresee(3, 3)", "foresee(6, 2)", "foresee(15, 1)",
                        "foresee(100, 0)"));
        Sentences.of("20: the same again, however often and in whichever order it is asked", () -> {
            Play x = new Play(COMING);
            for (int n = 0; n < 20; n++) {
                x.due("foresee(100, 0)", 0).due("foresee(3, 2)", 4).due("foresee(15, 1)", 1).due("foresee(2, 3)", 1);
            }
            x.due("count(0)", 0).due("pass(3)", 1).due("foresee(1, 0)", 3).due("foresee(12, 1)", 1);
        });
        Sentences.of("20: from the state as it is now", () ->
                new Play(COMING).due("foresee(15, 1)", 1).due("tie(0, 1, 50)", 8).due("foresee(15, 1)", 2)
                        .due("cut(0, 1)", 9).due("foresee(15, 1)", 1).due("setWind(2, 0)", 12)
                        .due("foresee(8, 1)", 1).due("addWater(0, 0, 30, 20, -2, 0, 0)", 1).due("foresee(100, 1)", 0));
    }

    private static void foreseeFar() {
        // The wind holds it until its water leaves it no lift: it goes from hour 76 on, 4 times 2 and 21 times 1.
        String[] late = {"addBarrel(0, 0, 4, 1)", "addWater(0, 0, 30, 20, 1, 0, 0)", "addWater(0, 0, 8, 20, 2, 0, 0)",
            "setWind(-2, 0)"};
        Sentences.of("20: in 100 hours, not in 99", () -> {
            then(late, 99, 1, 0, 1, 0);
            then(late, 100, 0, 0, 0, 0);
            new Play(Play.and(late, "pass(99)")).due("barrel(0, 8)", 28).due("foresee(1, 0)", 0);
        });
        Sentences.of("20: in 1 hour", () ->
                new Play(Play.and(COMING, "pass(14)")).due("foresee(1, 0)", 0).due("foresee(1, 1)", 1));
    }

    private static void foreseeRefused() {
        Sentences.of("20: IllegalArgumentException if hours is not 1 to 100", () -> {
            Play.answers(COMING, 4, "foresee(1, 0)");
            Play.answers(COMING, 0, "foresee(100, 0)");
            Play.refuses(COMING, Play.ARGUMENT, Play.outside("foresee(#, 0)", 1, 100));
            Play.refuses(Scenes.NEW, Play.ARGUMENT, Play.outside("foresee(#, 3)", 1, 100));
        });
        Sentences.of("20: IndexOutOfBoundsException if what is not 0 to 3", () -> {
            new Play(COMING).dues("foresee(1, #)", 4, 0, 3, 1);
            Play.refuses(COMING, Play.INDEX, Play.outside("foresee(1, #)", 0, 3));
            Play.refuses(Scenes.NEW, Play.INDEX, Play.outside("foresee(100, #)", 0, 3));
        });
        Sentences.of("20: wrong hours are told ahead of a wrong what", () ->
                Play.refuses(COMING, Play.ARGUMENT, "foresee(0, 4)", "foresee(101, -1)", "foresee(-1, -1)",
                        "foresee(101, 4)"));
    }

    private static void advise() {
        Sentences.of("21: returns 24 * its first barrel and its second one", () -> {
            Play.answers(PAIRS, 1, "advise(50)");
            Play.answers(Play.and(PAIRS, "tie(0, 1, 50)", "tie(2, 3, 50)"), 24 * 4 + 5, "advise(50)");
        });
        Sentences.of("21: of barrels 22 and 23, too", () ->
                Play.answers(Play.and(Scenes.barrels(22), "addBarrel(0, 7, 6, 0)", "addBarrel(1, 7, 30, 0)",
                        "addWater(0, 0, 30, 20, 2, 0, 0)", "addCastaway(22)", "tie(23, 22, 2)"), 24 * 22 + 23,
                        "advise(50)"));
        Sentences.of("21: in so many hours: the castaway comes ashore in hour 15, not in hour 14", () ->
                new Play(PAIRS).due("advise(14)", -1).due("advise(15)", 1));
        Sentences.of("21: in 50 hours, not in 49", () ->
                new Play(SLOW).due("foresee(50, 1)", 0).due("advise(49)", -1).due("advise(50)", 1)
                        .due("tie(0, 1, 50)", 8).due("foresee(49, 1)", 0).due("foresee(50, 1)", 1));
        Sentences.of("21: in 1 hour: as the piece rides high, and the barrel alone does not", () ->
                new Play("addBarrel(0, 0, 6, 0)", "addBarrel(1, 0, 30, 0)", "tie(0, 1, 50)", "setWind(2, 0)", "pass(14)",
                        "addCastaway(0)", "tie(0, 1, 2)").due("foresee(1, 1)", 0).due("advise(1)", 1)
                        .due("tie(0, 1, 3)", 7).due("foresee(1, 1)", 1).due("advise(1)", -1));
        Sentences.of("21: ropes do not matter", () -> {
            String[] noRope = Play.and(PAIRS, Scenes.times(7, "tie(0, 1, 2)"));
            new Play(noRope).due("count(9)", 0).due("advise(50)", 1);
        });
        Sentences.of("21: nothing is changed", () -> {
            Play.changesNothing(PAIRS, "advise(50)", "advise(1)");
            Play.changesNothing(COMING, "advise(50)", "advise(14)");
            Play.changesNothing(Scenes.FULL, "advise(50)");
        });
        Sentences.of("21: the same again, however often it is asked", () -> {
            Play x = new Play(COMING);
            for (int n = 0; n < 20; n++) {
                x.due("advise(15)", 1).due("foresee(15, 1)", 1).due("advise(14)", -1);
            }
            x.due("lashing(0, 1, 0)", 14).due("count(9)", 9);
        });
    }

    /** One castaway with a load that one barrel alone can't carry; all go by current 2 and wind. */
    private static String[] carried(int waves, int windX) {
        return new String[] {"addBarrel(0, 0, 6, 0)", "addBarrel(1, 0, 30, 0)", "addCastaway(0)",
            "addWater(0, 0, 30, 20, 2, 0, " + waves + ")", "setWind(" + windX + ", 0)"};
    }

    private static void adviseAnew() {
        Sentences.of("21: made anew with the strength 50, not 49: stress 20, it must hold until hour 8", () -> {
            String[] scene = Play.and(carried(17, 2), "tie(0, 1, 20)");
            new Play(scene).due("lashing(0, 1, 2)", 20).due("advise(8)", 1).due("advise(7)", -1)
                    .due("tie(0, 1, 49)", 8).due("foresee(8, 1)", 0).due("tie(0, 1, 50)", 7).due("foresee(8, 1)", 1);
        });
        Sentences.of("21: made anew with the strength 50, not 51: stress 19, it can't hold in hour 9", () -> {
            String[] scene = Play.and(carried(16, 1), "tie(0, 1, 20)");
            new Play(scene).due("lashing(0, 1, 2)", 19).due("advise(50)", -1).due("tie(0, 1, 50)", 8)
                    .due("foresee(8, 3)", 1).due("foresee(9, 3)", 0).due("foresee(50, 1)", 0)
                    .due("setWind(2, 0)", 17).due("foresee(50, 1)", 1);
        });
        Sentences.of("21: made anew, so that its wear is 0", () -> {
            String[] still = {"addBarrel(0, 0, 6, 0)", "addBarrel(1, 0, 30, 0)", "addCastaway(0)",
                "addWater(0, 0, 30, 20, 0, 0, 17)", "tie(0, 1, 50)", "pass(6)", "addWater(0, 0, 30, 20, 2, 0, 17)",
                "setWind(2, 0)"};
            new Play(still).dues("lashing(0, 1, #)", 50, 30, 20).due("foresee(8, 1)", 0).due("advise(8)", 1);
        });
        Sentences.of("21: now, not in an hour to come: one that breaks in the first hour", () ->
                new Play(Play.and(carried(17, 2), "tie(0, 1, 1)")).due("foresee(1, 3)", 0).due("advise(8)", 1));
        Sentences.of("21: a lashing that is there: those that are not tied are not tied anew", () -> {
            Play.answers(Play.and(PAIRS, "cut(0, 1)"), 24 * 2 + 3, "advise(50)");
            Play.answers(Play.and(PAIRS, "cut(0, 1)", "cut(2, 3)", "cut(4, 5)"), -1, "advise(50)");
        });
    }

    private static void adviseFirst() {
        Sentences.of("21: so that the most castaways are saved: two rather than one", () -> {
            Play.answers(Play.and(PAIRS, "addCastaway(3)"), 24 * 2 + 3, "advise(50)");
            Play.answers(Play.and(PAIRS, "addCastaway(5)"), 24 * 4 + 5, "advise(50)");
            Play.answers(Play.and(PAIRS, "addCastaway(3)", "addCastaway(5)", "addCastaway(5)"), 24 * 4 + 5,
                    "advise(50)");
        });
        Sentences.of("21: of several the first one, by its first barrel", () -> {
            Play.answers(PAIRS, 1, "advise(50)");
            Play.answers(Play.and(PAIRS, "addCastaway(3)", "addCastaway(5)"), 24 * 2 + 3, "advise(50)");
            Play.answers(Play.and(PAIRS, "addCastaway(3)", "addCastaway(1)"), 1, "advise(50)");
        });
        Sentences.of("21: by its first barrel, though the other one's second barrel is smaller", () ->
                Play.answers(new String[] {"addWater(0, 0, 30, 20, 2, 0, 0)", "addBarrel(0, 0, 30, 0)",
                    "addBarrel(3, 0, 30, 0)", "addBarrel(4, 0, 6, 0)", "addBarrel(1, 0, 6, 0)", "tie(1, 2, 2)",
                    "tie(0, 3, 2)", "addCastaway(2)", "addCastaway(3)"}, 3, "advise(50)"));
        String[] star = {"addWater(0, 0, 30, 20, 2, 0, 0)", "addBarrel(1, 0, 30, 0)", "addBarrel(2, 0, 6, 0)",
            "addBarrel(0, 0, 6, 0)", "tie(0, 2, 2)", "tie(0, 1, 2)", "addCastaway(2)", "addCastaway(1)"};
        Sentences.of("21: of several with the same first barrel, by the second one", () ->
                Play.answers(star, 1, "advise(50)"));
        Sentences.of("21: the second barrel's, where that of the first one holds", () ->
                Play.answers(Play.and(star, "tie(0, 1, 3)"), 2, "advise(50)"));
    }

    private static void adviseNone() {
        Sentences.of("21: -1 if none: there is no lashing, no barrel, no castaway", () -> {
            Play.answers(Scenes.NEW, -1, "advise(1)", "advise(50)");
            Play.answers(Scenes.barrels(24), -1, "advise(50)");
            Play.answers(new String[] {"addWater(0, 0, 30, 20, 2, 0, 5)", "addBarrel(0, 0, 9, 0)",
                "addBarrel(1, 0, 9, 0)", "tie(0, 1, 1)"}, -1, "advise(50)");
        });
        Sentences.of("21: none, if these are not more than without: all are saved as it is", () ->
                Play.answers(Play.and(PAIRS, "tie(0, 1, 3)", "tie(2, 3, 3)", "tie(4, 5, 3)"), -1, "advise(50)"));
        Sentences.of("21: none, if these are not more than without: no one is saved either way", () ->
                Play.answers(Play.and(PAIRS, "addWater(0, 0, 30, 20, 0, 0, 0)"), -1, "advise(50)"));
        Sentences.of("21: one more than without is enough", () -> {
            Play.answers(Play.and(PAIRS, "tie(0, 1, 3)"), 24 * 2 + 3, "advise(50)");
            Play.answers(Play.and(PAIRS, "tie(0, 1, 3)", "tie(2, 3, 3)"), 24 * 4 + 5, "advise(50)");
        });
        Sentences.of("21: not more than without: who is saved already does not count for a lashing", () ->
                new Play(Play.and(PAIRS, "tie(0, 1, 3)", "pass(15)")).due("count(6)", 1).due("advise(50)", -1));
        Sentences.of("21: more than without, where one is saved already, and one is saved as it is", () ->
                new Play(Play.and(PAIRS, "tie(0, 1, 3)", "pass(15)", "addBarrel(0, 1, 30, 0)", "addBarrel(1, 1, 6, 0)",
                        "addBarrel(5, 5, 30, 0)", "addCastaway(8)", "addCastaway(7)", "tie(7, 6, 2)"))
                        .due("count(6)", 1).due("foresee(50, 1)", 2).due("advise(50)", 24 * 6 + 7));
        Sentences.of("21: more than without, where more are saved already than are afloat", () ->
                new Play(Play.and(PAIRS, "tie(0, 1, 3)", "tie(2, 3, 3)", "tie(4, 5, 3)", "pass(15)",
                        "addBarrel(0, 1, 30, 0)", "addBarrel(1, 1, 6, 0)", "addCastaway(7)", "tie(7, 6, 2)"))
                        .due("count(6)", 3).due("foresee(50, 1)", 3).due("advise(50)", 24 * 6 + 7));
        Sentences.of("21: none, if all that can be made anew make it worse", () ->
                new Play("addWater(0, 0, 30, 20, 2, 0, 8)", "addBarrel(0, 0, 30, 0)", "addBarrel(1, 0, 10, 9)",
                        "tie(0, 1, 14)", "addCastaway(0)", "load(1, 25)").due("foresee(50, 1)", 1)
                        .due("advise(50)", -1).due("tie(0, 1, 50)", 8).due("foresee(50, 1)", 0));
    }

    private static void adviseRefused() {
        Sentences.of("21: IllegalArgumentException if hours is not 1 to 50", () -> {
            Play.answers(PAIRS, -1, "advise(1)");
            Play.answers(PAIRS, 1, "advise(50)");
            Play.refuses(PAIRS, Play.ARGUMENT, Play.outside("advise(#)", 1, 50));
            Play.refuses(Scenes.NEW, Play.ARGUMENT, Play.outside("advise(#)", 1, 50));
        });
    }

    private static void spare() {
        Sentences.of("22: 0 if none floats: there is none, all are lost, all are saved", () -> {
            Play.answers(Scenes.NEW, 0.0, "spare()");
            new Play("addBarrel(0, 0, 9, 0)", "load(0, 10)").due("spare()", -1.0).due("pass(1)", 0).due("spare()", 0.0);
            new Play("addBarrel(0, 0, 9, 0)", "setWind(2, 0)", "pass(14)").due("spare()", 9.0).due("pass(1)", 0)
                    .due("spare()", 0.0);
        });
        Sentences.of("22: divided by how many float, not cut", () ->
                new Play("addBarrel(0, 0, 10, 0)").due("spare()", 10.0).due("addBarrel(1, 0, 7, 0)", 1)
                        .due("spare()", 8.5).due("addBarrel(2, 0, 3, 0)", 2).due("spare()", 20.0 / 3.0)
                        .due("load(2, 19)", 0).due("spare()", 1.0 / 3.0).due("load(2, 20)", 19).due("spare()", 0.0)
                        .due("load(2, 21)", 20).due("spare()", -1.0 / 3.0).due("load(2, 30)", 21)
                        .due("spare()", -10.0 / 3.0));
        Sentences.of("22: what they lift with their water, each cut, and less their castaways", () ->
                new Play("addBarrel(0, 0, 33, 1)", "addBarrel(1, 0, 40, 9)", "addCastaway(0)", "pass(1)")
                        .due("spare()", 30.5).due("pass(10)", 0).due("spare()", 11.0));
        Sentences.of("22: of those that float alone", () -> {
            new Play(FATES).due("spare()", 6.5);
            new Play(Scenes.FULL).due("spare()", 424.0 / 24.0);
        });
    }

    /** The sum that the document tells, in numbers without an end; each object is asked a part of it. */
    private static BigInteger endless(String[] scene) {
        BigInteger d = BigInteger.valueOf(571);
        d = told(d, scene, "count(#)", 12);
        Play x = new Play(scene);
        int barrels = Integer.parseInt(x.ask("count(1)"));
        int castaways = Integer.parseInt(x.ask("count(4)"));
        for (int n = 0; n < barrels; n++) {
            d = told(d, scene, "barrel(" + n + ", #)", 13);
        }
        for (int a = 0; a < barrels; a++) {
            Play y = new Play(scene);
            for (int b = a + 1; b < barrels; b++) {
                String strength = y.ask("lashing(" + a + ", " + b + ", 0)");
                if (!strength.equals("0")) {
                    String wear = y.ask("lashing(" + a + ", " + b + ", 1)");
                    d = next(next(next(next(d, "" + a), "" + b), strength), wear);
                }
            }
        }
        for (int n = 0; n < castaways; n++) {
            d = told(d, scene, "castaway(" + n + ", #)", 2);
        }
        return d;
    }

    private static BigInteger told(BigInteger before, String[] scene, String call, int whats) {
        BigInteger d = before;
        Play x = new Play(scene);
        for (int what = 0; what < whats; what++) {
            d = next(d, x.ask(call.replace("#", "" + what)));
        }
        return d;
    }

    private static BigInteger next(BigInteger d, String x) {
        return d.multiply(BigInteger.valueOf(31)).add(new BigInteger(x));
    }

    private static void digestIs(String... scene) {
        Play.answers(scene, endless(scene).longValue(), "digest()");
    }

    private static void digest() {
        Sentences.of("23: starts with 571, and goes on by 31 with what count() tells, in its order", () -> {
            BigInteger d = BigInteger.valueOf(571).multiply(BigInteger.valueOf(31).pow(12));
            d = d.add(BigInteger.valueOf(10).multiply(BigInteger.valueOf(31).pow(2)));
            Play.answers(Scenes.NEW, d.longValue(), "digest()");
            digestIs("pass(100)");
        });
        Sentences.of("23: which wraps around as a 64-bit integer", () -> {
            if (endless(Scenes.NEW).bitLength() < 64 || endless(Scenes.FULL).bitLength() < 64) {
                Sentences.fails("this test does not come to where it wraps around");
            }
            digestIs(Scenes.FULL);
            String[] negative = {"addBarrel(0, 0, 1, 0)"};
            for (int n = 0; n < 20 && endless(negative).longValue() >= 0; n++) {
                negative = Play.and(negative, "pass(1)");
            }
            if (endless(negative).longValue() >= 0) {
                Sentences.fails("this test does not come to a digest below 0");
            }
            digestIs(negative);
        });
        Sentences.of("23: for each barrel what barrel() tells, those lost and saved with their -1", () -> {
            digestIs("addBarrel(3, 4, 40, 9)");
            digestIs("addBarrel(3, 4, 40, 9)", "addBarrel(5, 1, 9, 0)", "load(1, 30)", "pass(1)");
            digestIs(Play.and(Scenes.barrels(2), "setWind(2, 1)", "pass(20)"));
        });
        Sentences.of("23: for each lashing, in the order of step 3, its barrels, its strength and its wear", () -> {
            String[] tied = Play.and(Scenes.barrels(11), "tie(9, 10, 20)", "tie(2, 1, 30)", "tie(9, 1, 40)",
                    "tie(0, 1, 50)", "tie(8, 0, 10)", "tie(2, 10, 11)");
            digestIs(tied);
            digestIs(Play.and(tied, "addWater(0, 0, 30, 20, 0, 0, 7)", "pass(2)"));
            digestIs(Play.and(tied, "cut(1, 2)", "addWater(0, 0, 30, 20, 0, 0, 7)", "pass(2)", "tie(1, 2, 9)"));
            digestIs(Play.and(tied, "addWater(0, 0, 30, 20, 0, 0, 12)", "pass(1)"));
        });
        Sentences.of("23: for each castaway what castaway() tells, in its order", () -> {
            digestIs("addBarrel(0, 0, 40, 0)", "addCastaway(0)", "addCastaway(0)");
            digestIs(FATES);
            digestIs(Play.and(FATES, "pass(50)"));
        });
        Sentences.of("23: nothing is changed by it", () ->
                Play.changesNothing(FATES, "digest()", "spare()", "count(8)", "barrel(0, 7)", "lashing(0, 1, 2)",
                        "castaway(1, 0)", "firm(0, 1)", "hold(0, 1)", "piece(0, 4)", "sea(0, 10, 4)"));
    }
}
