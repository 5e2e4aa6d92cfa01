/** Promises 15 and 16, sentence by sentence: pass, with the six steps of an hour in the terms, and count. */
public final class HourSentencesTest {
    private static final String[] FATES = Scenes.FATES;
    private static final String[] PAIR = {"addBarrel(0, 0, 20, 0)", "addBarrel(1, 0, 20, 0)", "tie(0, 1, 50)"};

    public static void main(String[] args) {
        pass();
        water();
        lost();
        lostWith();
        breaks();
        wear();
        drift();
        wind();
        edges();
        parts();
        saved();
        count();
        calls();
        Sentences.end("HourSentencesTest");
    }

    private static void pass() {
        Sentences.of("15: IllegalArgumentException if hours is not 1 to 100", () -> {
            new Play(FATES).due("pass(1)", 0).due("count(0)", 16);
            new Play(FATES).due("pass(100)", 0).due("count(0)", 115);
            Play.refuses(FATES, Play.ARGUMENT, Play.outside("pass(#)", 1, 100));
            Play.refuses(Scenes.NEW, Play.ARGUMENT, Play.outside("pass(#)", 1, 100));
        });
        Sentences.of("terms: the hour is 1 greater, also with nothing in the sea, or nothing left there", () -> {
            new Play().due("pass(1)", 0).due("count(0)", 1).due("pass(100)", 0).due("count(0)", 101);
            new Play(Play.and(PAIR, "setWind(2, 0)")).due("pass(14)", 0).due("pass(100)", 0)
                    .due("count(2)", 0).due("count(0)", 114);
        });
        Sentences.of("15: hours that go by at once are the same as one by one", () -> {
            String[] scene = {"addBarrel(0, 0, 20, 3)", "addBarrel(1, 0, 20, 0)", "addBarrel(1, 1, 9, 1)",
                "tie(0, 1, 30)", "tie(1, 2, 17)", "addCastaway(2)", "addWater(0, 0, 30, 20, 1, 1, 9)",
                "addWater(4, 0, 26, 20, 2, 0, 5)", "setWind(0, -1)", "load(0, 8)"};
            for (int hours = 1; hours <= 40; hours++) {
                Play oneByOne = new Play(Play.and(scene, Scenes.times(hours, "pass(1)")));
                new Play(Play.and(scene, "pass(" + hours + ")")).due("digest()", oneByOne.ask("digest()"));
            }
        });
        Sentences.of("15: returns how many lashings broke in them, not before", () -> {
            Play x = new Play(Play.and(Scenes.barrels(4), "tie(0, 1, 5)", "tie(1, 2, 8)", "tie(2, 3, 9)",
                    "addWater(0, 0, 30, 20, 0, 0, 6)"));
            x.due("pass(1)", 1).due("count(10)", 1).due("pass(3)", 1).due("count(10)", 2).due("pass(1)", 1);
            x.due("count(10)", 3).due("pass(100)", 0).due("count(10)", 3);
        });
        Sentences.of("15: those alone that broke by waves: not the cut ones, nor those lost or saved", () -> {
            new Play(Play.and(PAIR, "cut(0, 1)")).due("pass(1)", 0).due("count(10)", 0);
            new Play(Play.and(PAIR, "load(0, 30)", "load(1, 11)", "addWater(0, 0, 30, 20, 0, 0, 20)"))
                    .due("pass(1)", 0).due("count(7)", 0).due("count(10)", 0);
            new Play(Play.and(PAIR, "setWind(2, 0)")).due("pass(15)", 0).due("count(7)", 0).due("count(10)", 0);
        });
        Sentences.of("15: as many as there can be break in one hour", () ->
                new Play(Play.and(Scenes.barrels(8), "tie(0, 1, 1)", "tie(1, 2, 1)", "tie(2, 3, 1)",
                        "tie(3, 4, 1)", "tie(4, 5, 1)", "tie(5, 6, 1)", "tie(6, 7, 1)",
                        "addBarrel(0, 1, 9, 0)", "tie(0, 8, 1)", "addBarrel(1, 1, 9, 0)", "tie(8, 9, 1)",
                        "tie(1, 9, 1)", "addWater(0, 0, 30, 20, 0, 0, 2)")).due("count(9)", 0)
                        .due("pass(1)", 10).due("count(7)", 0).due("count(8)", 10).due("count(9)", 0));
    }

    private static void water() {
        Sentences.of("terms, step 1: as much more water as its leak, at most 100: 99 and 9", () ->
                new Play("addBarrel(0, 0, 9, 9)", "pass(11)").due("barrel(0, 4)", 99).due("pass(1)", 0)
                        .due("barrel(0, 4)", 100).due("pass(1)", 0).due("barrel(0, 4)", 100));
        Sentences.of("terms, step 1: 100 just so", () ->
                new Play("addBarrel(0, 0, 9, 4)", "pass(24)").due("barrel(0, 4)", 96).due("pass(1)", 0)
                        .due("barrel(0, 4)", 100));
        Sentences.of("terms, step 1: a leak of 0", () ->
                new Play("addBarrel(0, 0, 9, 0)", "pass(100)").due("barrel(0, 4)", 0));
        Sentences.of("terms, step 1: only a barrel that floats", () ->
                new Play("addBarrel(0, 0, 9, 3)", "addBarrel(1, 0, 9, 4)", "load(0, 8)", "addWater(0, 0, 30, 20, 2, 0, 0)",
                        "pass(15)").due("barrel(0, 6)", 1).due("barrel(0, 4)", 12).due("barrel(1, 6)", 2)
                        .due("barrel(1, 4)", 60).due("pass(5)", 0).due("barrel(0, 4)", 12).due("barrel(1, 4)", 60));
    }

    private static void lost() {
        Sentences.of("terms, step 2: lost if its load is greater than what it lifts, not if it is the same", () -> {
            new Play("addBarrel(0, 0, 10, 0)", "load(0, 10)", "pass(1)").due("barrel(0, 6)", 0);
            new Play("addBarrel(0, 0, 10, 0)", "load(0, 11)", "pass(1)").due("barrel(0, 6)", 1);
        });
        Sentences.of("terms, step 2: 7 for a castaway", () -> {
            new Play("addBarrel(0, 0, 7, 0)", "addCastaway(0)", "pass(1)").due("barrel(0, 6)", 0);
            new Play("addBarrel(0, 0, 6, 0)", "addCastaway(0)", "pass(1)").due("barrel(0, 6)", 1);
        });
        Sentences.of("terms, step 2: a barrel full of water floats with no load, and is lost with 1", () -> {
            String[] full = {"addBarrel(0, 0, 40, 9)", "pass(100)"};
            new Play(full).due("barrel(0, 6)", 0).due("load(0, 1)", 0).due("pass(1)", 0).due("barrel(0, 6)", 1);
            new Play(full).due("load(0, 0)", 0).due("pass(1)", 0).due("barrel(0, 6)", 0);
        });
        Sentences.of("terms, step 2: after the water of step 1", () -> {
            String[] leaky = {"addBarrel(0, 0, 10, 1)", "pass(1)", "addCastaway(0)"};
            new Play(Play.and(leaky, "load(0, 2)")).due("barrel(0, 11)", 9).due("pass(1)", 0).due("barrel(0, 6)", 0);
            new Play(Play.and(leaky, "load(0, 3)")).due("pass(1)", 0).due("barrel(0, 6)", 1);
            new Play("addBarrel(0, 0, 10, 1)", "load(0, 10)").due("pass(1)", 0).due("barrel(0, 6)", 1);
        });
        Sentences.of("terms, step 2: the loads of a piece together, and what its barrels lift together", () -> {
            new Play(Play.and(PAIR, "load(0, 30)", "load(1, 10)", "pass(1)")).dues("barrel(#, 6)", 0, 0);
            new Play(Play.and(PAIR, "load(0, 30)", "load(1, 11)", "pass(1)")).dues("barrel(#, 6)", 1, 1);
            new Play(Play.and(PAIR, "cut(0, 1)", "load(0, 30)", "load(1, 10)", "pass(1)")).dues("barrel(#, 6)", 1, 0);
        });
        Sentences.of("terms, step 2: each barrel's lift is cut, before they are added up", () ->
                new Play("addBarrel(0, 0, 19, 5)", "addBarrel(1, 0, 19, 5)", "tie(0, 1, 50)", "pass(1)",
                        "load(0, 18)", "load(1, 16)").due("piece(0, 1)", 36).due("pass(1)", 0)
                        .due("count(2)", 2).due("piece(0, 1)", 34).due("load(1, 17)", 16).due("pass(1)", 0)
                        .due("count(2)", 0));
    }

    private static void lostWith() {
        String[] two = {"addBarrel(0, 0, 20, 0)", "addBarrel(1, 0, 20, 0)", "addBarrel(2, 0, 20, 0)",
            "addBarrel(3, 0, 20, 0)", "tie(1, 2, 50)", "tie(0, 1, 50)", "addCastaway(2)", "addCastaway(3)",
            "addCastaway(0)", "load(1, 30)", "load(0, 16)", "load(3, 5)"};
        Sentences.of("terms, step 2: all its barrels and castaways are lost, and no other ones", () ->
                new Play(Play.and(two, "pass(1)")).dues("barrel(#, 6)", 0, 0, 0, 0).due("load(0, 17)", 16)
                        .due("pass(1)", 0).dues("barrel(#, 6)", 1, 1, 1, 0)
                        .dues("castaway(#, 1)", 1, 0, 1).dues("castaway(#, 0)", -1, 3, -1).due("barrel(3, 5)", 5)
                        .due("barrel(3, 12)", 12));
        Sentences.of("terms, step 2: its lashings are gone, which gives no rope", () ->
                new Play(Play.and(two, "load(0, 17)", "pass(1)")).due("count(7)", 0).due("lashing(0, 1, 0)", 0)
                        .due("lashing(1, 2, 0)", 0).due("count(9)", 8).due("barrel(1, 10)", 0));
        Sentences.of("terms, step 2: the lashings of another piece stay", () ->
                new Play(Play.and(two, "addBarrel(3, 1, 20, 0)", "tie(3, 4, 9)", "load(0, 17)", "pass(1)"))
                        .due("count(7)", 1).due("lashing(3, 4, 0)", 9));
        Sentences.of("terms, step 2: its goods are 0", () ->
                new Play(Play.and(two, "load(0, 17)")).dues("barrel(#, 5)", 17, 30, 0, 5).due("pass(1)", 0)
                        .dues("barrel(#, 5)", 0, 0, 0, 5).dues("barrel(#, 12)", 0, 0, 0, 12).due("count(11)", 0));
        Sentences.of("terms, step 2: a piece that is lost breaks no lashing in step 3 and does not go in step 4", () ->
                new Play(Play.and(two, "load(0, 17)", "tie(0, 1, 1)", "addWater(0, 0, 30, 20, 2, 2, 20)"))
                        .due("pass(1)", 0).due("count(10)", 0).due("barrel(0, 8)", 0).due("barrel(2, 9)", 10)
                        .due("barrel(3, 8)", 2));
        Sentences.of("terms, steps 2 and 3: what breaks off is lost in the next hour, not in this one", () ->
                new Play("addBarrel(0, 0, 6, 0)", "addBarrel(1, 0, 20, 0)", "tie(0, 1, 8)", "addCastaway(0)",
                        "addWater(0, 0, 30, 20, 1, 0, 6)").due("pass(1)", 1).due("barrel(0, 6)", 0)
                        .due("barrel(0, 8)", 1).due("pass(1)", 0).due("barrel(0, 6)", 1).due("barrel(0, 8)", 1)
                        .due("castaway(0, 1)", 1).due("barrel(1, 8)", 2));
    }

    private static void breaks() {
        Sentences.of("terms, step 3: breaks if the stress is greater than the strength, not if it is the same", () -> {
            String[] waves = Play.and(PAIR, "addWater(0, 0, 30, 20, 0, 0, 9)");
            new Play(Play.and(waves, "tie(0, 1, 9)")).due("pass(1)", 0).due("lashing(0, 1, 0)", 9);
            new Play(Play.and(waves, "tie(0, 1, 8)")).due("pass(1)", 1).due("lashing(0, 1, 0)", 0);
        });
        Sentences.of("terms, step 3: than the strength less the wear", () -> {
            String[] waves = Play.and(PAIR, "addWater(0, 0, 30, 20, 0, 0, 9)");
            new Play(Play.and(waves, "tie(0, 1, 11)")).due("pass(1)", 0).due("lashing(0, 1, 1)", 2)
                    .due("pass(1)", 0).due("lashing(0, 1, 1)", 4).due("pass(1)", 1);
            new Play(Play.and(waves, "tie(0, 1, 10)")).due("pass(1)", 0).due("lashing(0, 1, 1)", 2)
                    .due("pass(1)", 1);
        });
        Sentences.of("terms, step 3: the weakest one holds against 1, and breaks by 2", () -> {
            new Play(Play.and(PAIR, "tie(0, 1, 1)", "addWater(0, 0, 30, 20, 0, 0, 1)")).due("pass(100)", 0)
                    .dues("lashing(0, 1, #)", 1, 0, 1);
            new Play(Play.and(PAIR, "tie(0, 1, 1)", "addWater(0, 0, 30, 20, 0, 0, 2)")).due("pass(1)", 1);
        });
        Sentences.of("terms, step 3: the waves, and half (cut) of the difference of the loads", () -> {
            String[] loads = Play.and(PAIR, "addWater(0, 0, 30, 20, 0, 0, 4)", "tie(0, 1, 7)", "load(0, 3)");
            new Play(Play.and(loads, "load(1, 10)")).due("pass(1)", 0);
            new Play(Play.and(loads, "load(1, 11)")).due("pass(1)", 1);
            new Play(Play.and(loads, "load(1, 10)", "load(0, 17)")).due("pass(1)", 0);
            new Play(Play.and(loads, "load(1, 10)", "load(0, 18)")).due("pass(1)", 1);
            new Play(Play.and(loads, "addCastaway(1)", "load(1, 3)")).due("pass(1)", 0);
            new Play(Play.and(loads, "addCastaway(1)", "load(1, 4)")).due("pass(1)", 1);
        });
        Sentences.of("terms, step 3: the waves where the piece is, ahead of its going", () ->
                new Play(Play.and(PAIR, "tie(0, 1, 5)", "addWater(0, 0, 2, 20, 2, 0, 5)",
                        "addWater(2, 0, 28, 20, 2, 0, 6)")).due("pass(1)", 0).due("barrel(0, 8)", 2)
                        .due("pass(1)", 1));
        Sentences.of("terms, step 3: a lashing that broke is gone, and gives no rope", () ->
                new Play(Play.and(PAIR, "tie(0, 1, 5)", "addWater(0, 0, 30, 20, 0, 0, 6)", "pass(1)"))
                        .due("count(7)", 0).due("count(9)", 8).due("barrel(0, 10)", 0).due("count(8)", 2)
                        .dues("barrel(#, 7)", 0, 1).due("tie(0, 1, 9)", 7).due("lashing(0, 1, 1)", 0));
        Sentences.of("terms, step 3: the others of the piece hold, each by itself", () ->
                new Play(Play.and(Scenes.barrels(4), "tie(2, 3, 6)", "tie(1, 2, 5)", "tie(0, 1, 7)",
                        "addWater(0, 0, 30, 20, 0, 0, 6)", "pass(1)")).due("count(7)", 2)
                        .dues("lashing(0, 1, #)", 7, 1, 6).dues("lashing(1, 2, #)", 0, 0, 0)
                        .dues("lashing(2, 3, #)", 6, 1, 6).dues("barrel(#, 7)", 0, 0, 2, 2));
    }

    /** The wear of a lashing after an hour of these waves. */
    private static void worn(int waves, int wear) {
        new Play(Play.and(PAIR, "addWater(0, 0, 30, 20, 0, 0, " + waves + ")", "pass(1)"))
                .dues("lashing(0, 1, #)", 50, wear, waves);
    }

    private static void wear() {
        Sentences.of("terms, step 3: otherwise the wear is stress / 4 more, cut", () -> {
            worn(0, 0);
            worn(3, 0);
            worn(4, 1);
            worn(7, 1);
            worn(8, 2);
            worn(19, 4);
            worn(20, 5);
        });
        Sentences.of("terms, step 3: by the whole stress, not by its parts", () ->
                new Play(Play.and(PAIR, "addWater(0, 0, 30, 20, 0, 0, 3)", "load(0, 10)", "load(1, 9)"))
                        .due("pass(1)", 0).due("lashing(0, 1, 1)", 0).due("load(1, 8)", 9).due("pass(1)", 0)
                        .due("lashing(0, 1, 1)", 1).due("load(1, 0)", 8).due("pass(1)", 0)
                        .due("lashing(0, 1, 1)", 3));
        Sentences.of("terms, step 3: hour by hour, until it breaks", () ->
                new Play(Play.and(PAIR, "addWater(0, 0, 30, 20, 0, 0, 20)")).due("pass(6)", 0)
                        .dues("lashing(0, 1, #)", 50, 30, 20).due("pass(1)", 0).due("lashing(0, 1, 1)", 35)
                        .due("pass(1)", 1));
        Sentences.of("terms, step 3: it wears without waves, too, by the loads", () ->
                new Play(Play.and(PAIR, "load(0, 30)")).due("pass(1)", 0).dues("lashing(0, 1, #)", 50, 3, 15)
                        .due("pass(11)", 0).dues("lashing(0, 1, #)", 50, 36, 15).due("pass(1)", 1));
    }

    /** A barrel that comes to 14, 10 at first, by one water, goes by the other one. */
    private static void goes(int dx, int dy) {
        String flow = "addWater(14, 0, 16, 20, " + dx + ", " + dy + ", 0)";
        new Play("addBarrel(0, 0, 9, 0)", "addWater(0, 0, 14, 20, 2, 0, 0)", flow, "pass(7)")
                .due("barrel(0, 8)", 14).due("pass(1)", 0).due("barrel(0, 8)", 14 + dx).due("barrel(0, 9)", 10 + dy);
    }

    private static void drift() {
        Sentences.of("terms, step 4: each piece goes by the current where it is, -2 to 2", () -> {
            goes(2, 0);
            goes(-2, 0);
            goes(0, 2);
            goes(0, -2);
            goes(1, -1);
        });
        Sentences.of("terms, step 4: where it is, ahead of its going", () ->
                new Play("addBarrel(0, 0, 9, 0)", "addWater(0, 0, 2, 20, 2, 1, 0)", "addWater(2, 0, 28, 20, 1, -1, 0)",
                        "pass(1)").due("barrel(0, 8)", 2).due("barrel(0, 9)", 11).due("pass(1)", 0)
                        .due("barrel(0, 8)", 3).due("barrel(0, 9)", 10));
        Sentences.of("terms, step 4: all of its barrels go together", () ->
                new Play(Play.and(PAIR, "addBarrel(1, 1, 9, 0)", "tie(1, 2, 9)", "addWater(0, 0, 30, 20, 1, 2, 0)",
                        "pass(3)")).dues("barrel(#, 8)", 3, 3, 3).dues("barrel(#, 9)", 16, 16, 16));
    }

    private static void wind() {
        String[] windy = {"setWind(1, 2)", "addBarrel(0, 0, 20, 0)"};
        Sentences.of("terms, step 4: rides high if twice its load is less than what it lifts", () -> {
            new Play(Play.and(windy, "load(0, 9)", "pass(1)")).due("barrel(0, 8)", 1).due("barrel(0, 9)", 12);
            new Play(Play.and(windy, "load(0, 10)", "pass(1)")).due("barrel(0, 8)", 0).due("barrel(0, 9)", 10);
            new Play("setWind(1, 2)", "addBarrel(0, 0, 19, 0)", "load(0, 9)", "pass(1)").due("barrel(0, 8)", 1);
            new Play("setWind(1, 2)", "addBarrel(0, 0, 15, 0)", "addCastaway(0)", "pass(1)").due("barrel(0, 8)", 1);
            new Play("setWind(1, 2)", "addBarrel(0, 0, 14, 0)", "addCastaway(0)", "pass(1)").due("barrel(0, 8)", 0);
        });
        Sentences.of("terms, step 4: what it lifts as it is now, less its water", () ->
                new Play("setWind(1, 0)", "addBarrel(0, 0, 20, 9)", "load(0, 9)").due("pass(1)", 0)
                        .due("barrel(0, 8)", 0).due("load(0, 7)", 9).due("pass(1)", 0).due("barrel(0, 8)", 1)
                        .due("load(0, 0)", 7).due("pass(8)", 0).due("barrel(0, 8)", 9).due("barrel(0, 11)", 2)
                        .due("pass(1)", 0).due("barrel(0, 8)", 9).due("barrel(0, 11)", 0));
        Sentences.of("terms, step 4: empty ones that lift nothing do not ride high", () ->
                new Play("setWind(1, 0)", "addBarrel(0, 0, 1, 1)").due("pass(1)", 0).due("barrel(0, 11)", 0)
                        .due("barrel(0, 8)", 0));
        Sentences.of("terms, step 4: the loads of a piece together, and what it lifts together", () -> {
            new Play(Play.and(PAIR, "setWind(1, 0)", "load(0, 19)", "pass(1)")).dues("barrel(#, 8)", 1, 1);
            new Play(Play.and(PAIR, "setWind(1, 0)", "load(0, 20)", "pass(1)")).dues("barrel(#, 8)", 0, 0);
            new Play(Play.and(PAIR, "setWind(1, 0)", "load(0, 10)", "load(1, 9)", "pass(1)")).dues("barrel(#, 8)", 1, 1);
        });
        Sentences.of("terms, step 4: by the wind, too: dx and dy of both", () -> {
            String[] flow = Play.and(windy, "addWater(0, 0, 30, 20, 1, -1, 0)");
            new Play(Play.and(flow, "pass(1)")).due("barrel(0, 8)", 2).due("barrel(0, 9)", 11);
            new Play(Play.and(flow, "load(0, 10)", "pass(1)")).due("barrel(0, 8)", 1).due("barrel(0, 9)", 9);
        });
    }

    /** Where a barrel is that goes by these waters (each over all the sea) for these hours, one by one. */
    private static void at(int x, int y, String... scene) {
        new Play(Play.and(new String[] {"addBarrel(0, 0, 9, 0)"}, scene)).due("barrel(0, 8)", x)
                .due("barrel(0, 9)", y);
    }

    private static void edges() {
        String back = "addWater(0, 0, 30, 20, -2, 0, 0)";
        Sentences.of("terms, step 4: x stays 0 or more", () -> {
            at(0, 10, back, "pass(1)");
            at(0, 10, "setWind(1, 0)", "pass(1)", "setWind(0, 0)", back, "pass(1)");
            at(0, 10, "setWind(2, 0)", "pass(1)", "setWind(0, 0)", back, "pass(1)");
            at(1, 10, "setWind(1, 0)", "pass(3)", "setWind(0, 0)", back, "pass(1)");
            at(0, 10, "setWind(2, 0)", "pass(1)", "setWind(-2, 0)", back, "pass(1)");
        });
        Sentences.of("terms, step 4: x stays 29 or less", () -> {
            at(28, 10, "setWind(2, 0)", "pass(14)");
            at(29, 10, "setWind(2, 0)", "pass(15)");
            at(29, 10, "setWind(2, 0)", "pass(14)", "setWind(1, 0)", "pass(1)");
            at(29, 10, "setWind(2, 0)", "pass(14)", "addWater(0, 0, 30, 20, 2, 0, 0)", "pass(1)");
        });
        Sentences.of("terms, step 4: y stays 0 or more", () -> {
            at(0, 0, "setWind(0, -2)", "pass(5)");
            at(0, 0, "setWind(0, -2)", "pass(6)");
            at(0, 1, "setWind(0, -1)", "pass(9)");
            at(0, 0, "setWind(0, -1)", "pass(9)", "setWind(0, -2)", "pass(1)");
            at(0, 0, "setWind(0, -2)", "addWater(0, 0, 30, 20, 0, -2, 0)", "pass(3)");
        });
        Sentences.of("terms, step 4: y stays 19 or less", () -> {
            at(0, 18, "setWind(0, 2)", "pass(4)");
            at(0, 19, "setWind(0, 1)", "pass(9)");
            at(0, 19, "setWind(0, 1)", "pass(10)");
            at(0, 19, "setWind(0, 2)", "pass(5)");
            at(0, 19, "setWind(0, 2)", "addWater(0, 0, 30, 20, 0, 2, 0)", "pass(3)");
        });
        Sentences.of("terms, step 4: current and wind are one way, not two", () -> {
            at(0, 10, "setWind(2, 0)", back, "pass(3)");
            at(0, 0, "setWind(0, -2)", "pass(5)", "addWater(0, 0, 30, 20, 0, -2, 0)", "setWind(0, 2)", "pass(1)");
            at(0, 19, "setWind(0, 1)", "pass(9)", "addWater(0, 0, 30, 20, 0, 2, 0)", "setWind(0, -2)", "pass(1)");
            at(28, 10, "setWind(2, 0)", "pass(14)", "addWater(0, 0, 30, 20, 2, 0, 0)", "setWind(-2, 0)", "pass(1)");
        });
    }

    private static void parts() {
        String[] three = {"addBarrel(0, 0, 20, 0)", "addBarrel(1, 0, 20, 0)", "addBarrel(2, 0, 20, 0)",
            "tie(0, 1, 4)", "tie(1, 2, 50)", "setWind(0, 2)", "addWater(0, 10, 1, 1, 2, 0, 5)"};
        Sentences.of("terms, step 4: each piece as it is now: the part that broke off rides by its own load", () -> {
            new Play(Play.and(three, "load(0, 10)", "pass(1)")).dues("barrel(#, 8)", 2, 2, 2)
                    .dues("barrel(#, 9)", 10, 12, 12).dues("barrel(#, 7)", 0, 1, 1);
            new Play(Play.and(three, "load(0, 10)", "tie(0, 1, 10)", "pass(1)")).dues("barrel(#, 8)", 2, 2, 2)
                    .dues("barrel(#, 9)", 12, 12, 12).dues("barrel(#, 7)", 0, 0, 0);
            new Play(Play.and(three, "load(2, 19)", "pass(1)")).dues("barrel(#, 9)", 12, 12, 12);
            new Play(Play.and(three, "load(2, 20)", "pass(1)")).dues("barrel(#, 9)", 12, 10, 10);
        });
        Sentences.of("terms, step 4: all parts go from the same place, each by itself", () ->
                new Play(Play.and(three, "load(2, 20)", "load(1, 10)", "tie(0, 1, 4)", "pass(1)"))
                        .dues("barrel(#, 8)", 2, 2, 2).dues("barrel(#, 9)", 12, 10, 10).due("pass(1)", 0)
                        .dues("barrel(#, 9)", 14, 10, 10));
    }

    private static void saved() {
        String[] coming = Play.and(PAIR, "addCastaway(1)", "addBarrel(2, 0, 20, 0)", "addCastaway(2)", "load(0, 3)",
                "load(2, 10)", "setWind(2, 0)");
        Sentences.of("terms, step 5: each piece at the shore is saved, at x 29, not at 28", () ->
                new Play(coming).due("pass(14)", 0).due("barrel(0, 8)", 28).dues("barrel(#, 6)", 0, 0, 0)
                        .due("count(7)", 1).due("pass(1)", 0).due("barrel(0, 8)", 29)
                        .dues("barrel(#, 6)", 2, 2, 0));
        Sentences.of("terms, step 5: in the first and the last row, too", () -> {
            at(29, 0, "setWind(2, -2)", "pass(15)");
            new Play("addBarrel(0, 0, 9, 0)", "setWind(2, -2)", "pass(15)").due("barrel(0, 6)", 2);
            new Play("addBarrel(0, 0, 9, 0)", "setWind(2, 2)", "pass(15)").due("barrel(0, 6)", 2).due("barrel(0, 9)", 19);
        });
        Sentences.of("terms, step 5: all its barrels and castaways, and no other ones", () ->
                new Play(Play.and(coming, "pass(15)")).dues("castaway(#, 1)", 2, 0).dues("castaway(#, 0)", -1, 2)
                        .due("count(3)", 2).due("count(6)", 1));
        Sentences.of("terms, step 5: their lashings are gone, which gives no rope, and did not break", () ->
                new Play(Play.and(coming, "pass(15)")).due("count(7)", 0).due("lashing(0, 1, 0)", 0)
                        .due("count(9)", 9).due("count(10)", 0));
        Sentences.of("terms, step 5: their goods are saved", () ->
                new Play(Play.and(coming, "pass(15)")).due("barrel(0, 5)", 3).due("count(11)", 3));
        Sentences.of("terms, step 5: also the part that broke off in this hour, and it counts as broken", () ->
                new Play(Play.and(coming, "pass(14)", "tie(0, 1, 2)", "addWater(28, 0, 2, 20, 1, 0, 20)", "pass(1)"))
                        .dues("barrel(#, 6)", 2, 2, 0).due("count(10)", 1));
        Sentences.of("terms, steps 2 and 5: who is lost in this hour is not saved in it", () ->
                new Play(Play.and(coming, "pass(14)", "load(0, 30)", "load(1, 4)", "pass(1)"))
                        .dues("barrel(#, 6)", 1, 1, 0).due("barrel(0, 8)", 28).due("castaway(0, 1)", 1));
    }

    private static void count() {
        Sentences.of("16: IndexOutOfBoundsException if what is not 0 to 11", () -> {
            new Play(FATES).due("count(0)", 15).due("count(11)", 4);
            Play.refuses(FATES, Play.INDEX, Play.outside("count(#)", 0, 11));
            Play.refuses(Scenes.NEW, Play.INDEX, Play.outside("count(#)", 0, 11));
        });
        Sentences.of("16: with nothing there", () ->
                new Play().dues("count(#)", 0, 0, 0, 0, 0, 0, 0, 0, 0, 10, 0, 0));
        Sentences.of("16: with all that there can be", () ->
                new Play(Scenes.FULL).dues("count(#)", 0, 24, 24, 0, 8, 8, 0, 10, 14, 0, 0, 0));
        Sentences.of("16: with each fate", () ->
                new Play(FATES).dues("count(#)", 15, 4, 2, 1, 3, 1, 1, 1, 1, 9, 0, 4));
        Sentences.of("16: lashings that broke by waves in all, and not those that were cut", () ->
                new Play(Play.and(Scenes.barrels(3), "tie(0, 1, 2)", "tie(1, 2, 9)", "addWater(0, 0, 30, 20, 0, 0, 3)"))
                        .due("pass(1)", 1).due("count(10)", 1).due("cut(1, 2)", 9).due("count(10)", 1)
                        .due("tie(1, 2, 1)", 8).due("tie(0, 1, 1)", 7).due("pass(1)", 2).due("count(10)", 3));
        Sentences.of("16: goods that are saved, of all saved barrels, and not of those that float or are lost", () ->
                new Play("addBarrel(0, 0, 40, 0)", "addBarrel(1, 0, 40, 0)", "addBarrel(2, 0, 40, 0)",
                        "addBarrel(3, 0, 1, 0)", "load(0, 11)", "load(1, 19)", "load(2, 20)", "load(3, 30)",
                        "setWind(2, 0)").due("pass(14)", 0).due("count(11)", 0).due("pass(1)", 0)
                        .due("count(11)", 30).due("load(2, 30)", 20).due("count(11)", 30));
        Sentences.of("16: pieces, of barrels that float alone", () ->
                new Play(Play.and(FATES, "cut(0, 1)")).due("count(8)", 2).due("load(0, 21)", 10).due("pass(1)", 0)
                        .due("count(8)", 1).due("load(1, 30)", 10).due("pass(1)", 0).due("count(8)", 0));
    }

    private static void calls() {
        Sentences.of("an object is used for at most 512 calls: the 512th is answered as the first one", () -> {
            Play hours = new Play(Scenes.times(511, "pass(100)"));
            hours.due("count(0)", 51100);
            String due = new Play(Scenes.FULL).ask("digest()");
            Play x = new Play(Scenes.FULL);
            while (x.left() > 2) {
                x.due("load(23, 30)", 0).due("load(23, 0)", 30);
            }
            while (x.left() > 1) {
                x.due("count(1)", 24);
            }
            x.due("digest()", due);
        });
    }
}
