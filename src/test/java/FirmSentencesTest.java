/** Promises 17 to 19, sentence by sentence: firm, hold, piece. */
public final class FirmSentencesTest {
    private static final String[] FATES = Scenes.FATES;

    /**
     * Barrel 8 lies far off on the board, alone.
     * <pre>
     * 0 -9- 1 -8- 2
     * |     |     |
     * 7     6     5
     * |     |     |
     * 3 -4- 4 -3- 5 -2- 6 -1- 7
     * </pre>
     */
    private static final String[] LADDER = {
        "addBarrel(0, 0, 20, 0)", "addBarrel(1, 0, 20, 0)", "addBarrel(2, 0, 20, 0)", "addBarrel(0, 1, 20, 0)",
        "addBarrel(1, 1, 20, 0)", "addBarrel(2, 1, 20, 0)", "addBarrel(3, 1, 20, 0)", "addBarrel(4, 1, 20, 0)",
        "addBarrel(7, 7, 20, 0)", "tie(0, 1, 9)", "tie(1, 2, 8)", "tie(0, 3, 7)", "tie(1, 4, 6)", "tie(2, 5, 5)",
        "tie(3, 4, 4)", "tie(4, 5, 3)", "tie(5, 6, 2)", "tie(6, 7, 1)"};

    private static final String[] RING = {
        "addBarrel(0, 0, 9, 0)", "addBarrel(1, 0, 9, 0)", "addBarrel(1, 1, 9, 0)", "addBarrel(0, 1, 9, 0)",
        "tie(0, 1, 5)", "tie(1, 2, 6)", "tie(2, 3, 7)", "tie(3, 0, 8)"};

    public static void main(String[] args) {
        firm();
        hold();
        refused(17, "firm");
        refused(18, "hold");
        piece();
        pieceRefused();
        Sentences.end("FirmSentencesTest");
    }

    /** Asked both ways. */
    private static void both(String[] scene, String call, int a, int b, int due) {
        new Play(scene).due(call + "(" + a + ", " + b + ")", due).due(call + "(" + b + ", " + a + ")", due);
    }

    private static void firm() {
        Sentences.of("17: the least number of lashings without which both would be in different pieces: 1", () -> {
            both(LADDER, "firm", 6, 7, 1);
            both(LADDER, "firm", 5, 6, 1);
            both(LADDER, "firm", 0, 7, 1);
            both(LADDER, "firm", 4, 6, 1);
        });
        Sentences.of("17: the least number of lashings: 2", () -> {
            both(LADDER, "firm", 0, 1, 2);
            both(LADDER, "firm", 0, 5, 2);
            both(LADDER, "firm", 3, 2, 2);
            both(LADDER, "firm", 3, 4, 2);
            both(RING, "firm", 0, 2, 2);
            both(RING, "firm", 0, 3, 2);
        });
        Sentences.of("17: the least number of lashings: 3", () -> both(LADDER, "firm", 1, 4, 3));
        Sentences.of("17: 3 between two that have 4 lashings each", () -> {
            String[] wide = {"addBarrel(1, 1, 9, 0)", "addBarrel(2, 1, 9, 0)", "addBarrel(0, 1, 9, 0)",
                "addBarrel(3, 1, 9, 0)", "addBarrel(1, 0, 9, 0)", "addBarrel(2, 0, 9, 0)", "addBarrel(1, 2, 9, 0)",
                "addBarrel(2, 2, 9, 0)", "tie(0, 1, 9)", "tie(0, 2, 9)", "tie(0, 4, 9)", "tie(0, 6, 9)",
                "tie(1, 3, 9)", "tie(1, 5, 9)", "tie(1, 7, 9)", "tie(4, 5, 9)", "tie(6, 7, 9)"};
            both(wide, "firm", 0, 1, 3);
            both(wide, "firm", 2, 3, 1);
            both(wide, "firm", 4, 7, 2);
        });
        Sentences.of("17: each cut makes it one less, down to 0", () ->
                new Play(LADDER).due("firm(1, 4)", 3).due("cut(1, 4)", 2).due("firm(1, 4)", 2).due("cut(4, 5)", 3)
                        .due("firm(1, 4)", 1).due("cut(0, 3)", 4).due("firm(1, 4)", 0).due("firm(4, 3)", 1)
                        .due("firm(1, 2)", 1));
        Sentences.of("17: whichever way the barrels are numbered", () -> {
            for (int order = 0; order < 720; order++) {
                ringWithEnds(order);
            }
        });
        Sentences.of("17: strength and wear do not matter", () ->
                new Play(Play.and(RING, "tie(0, 1, 50)", "load(0, 3)")).due("pass(2)", 0).due("firm(0, 2)", 2));
        Sentences.of("17: a lashing that a first way takes is taken back for two ways", () -> {
            String[] crosswise = {"addBarrel(1, 0, 9, 0)", "addBarrel(0, 1, 9, 0)", "addBarrel(2, 1, 9, 0)",
                "addBarrel(1, 1, 9, 0)", "addBarrel(0, 0, 9, 0)", "addBarrel(2, 0, 9, 0)", "tie(0, 3, 5)",
                "tie(0, 4, 5)", "tie(0, 5, 5)", "tie(1, 3, 5)", "tie(1, 4, 5)", "tie(2, 3, 5)", "tie(2, 5, 5)"};
            both(crosswise, "firm", 5, 1, 2);
            both(crosswise, "firm", 4, 2, 2);
            both(crosswise, "firm", 0, 3, 3);
        });
        Sentences.of("17: -1 if both are the same", () -> {
            Play.answers(LADDER, -1, Play.each("firm(#, #)", 0, 4, 8));
            Play.answers(new String[] {"addBarrel(0, 0, 9, 0)"}, -1, "firm(0, 0)");
        });
        Sentences.of("17: -1 if both are the same, also if it does not float", () ->
                Play.answers(FATES, -1, "firm(2, 2)", "firm(3, 3)"));
        Sentences.of("17: 0 if they are in different pieces now", () -> {
            both(LADDER, "firm", 0, 8, 0);
            both(Scenes.barrels(2), "firm", 0, 1, 0);
            both(Play.and(RING, "cut(0, 1)", "cut(2, 3)"), "firm", 0, 1, 0);
        });
        Sentences.of("17: 0 if one does not float", () -> {
            both(FATES, "firm", 0, 2, 0);
            both(FATES, "firm", 1, 3, 0);
            both(FATES, "firm", 2, 3, 0);
        });
        Sentences.of("17: 0 if both hung together, and are lost or saved", () -> {
            both(Play.and(RING, "load(0, 30)", "load(1, 7)", "pass(1)"), "firm", 0, 1, 0);
            both(Play.and(RING, "setWind(2, 0)", "pass(15)"), "firm", 0, 1, 0);
        });
    }

    /** The numbers from 0 on in the order with this number. */
    private static int[] ordered(int many, int order) {
        int[] numbers = new int[many];
        int rest = order;
        for (int i = 0; i < many; i++) {
            numbers[i] = numbers[rest % (i + 1)];
            numbers[rest % (i + 1)] = i;
            rest /= i + 1;
        }
        return numbers;
    }

    /** Barrels at these places of the board, of which the first one has the first of the numbers, and so on. */
    private static String[] placed(int[] numbers, int... places) {
        String[] scene = new String[numbers.length];
        for (int i = 0; i < numbers.length; i++) {
            scene[numbers[i]] = "addBarrel(" + places[i] % 8 + ", " + places[i] / 8 + ", 9, 0)";
        }
        return scene;
    }

    /** Five in a row, with lashings of 40, 20, 30 and 10. */
    private static void chain(int order) {
        int[] n = ordered(5, order);
        String[] scene = Play.and(placed(n, 0, 1, 2, 3, 4), tie(n[0], n[1], 40), tie(n[1], n[2], 20),
                tie(n[2], n[3], 30), tie(n[3], n[4], 10));
        both(scene, "hold", n[0], n[4], 10);
        both(scene, "hold", n[0], n[3], 20);
        both(scene, "hold", n[2], n[3], 30);
        both(scene, "hold", n[0], n[1], 40);
    }

    /** A ring of the second to the fifth; the first hangs on the second, the sixth on the fourth. */
    private static void ringWithEnds(int order) {
        int[] n = ordered(6, order);
        String[] scene = Play.and(placed(n, 0, 1, 2, 10, 9, 11), tie(n[0], n[1], 5), tie(n[1], n[2], 5),
                tie(n[2], n[3], 5), tie(n[3], n[4], 5), tie(n[4], n[1], 5), tie(n[3], n[5], 5));
        both(scene, "firm", n[0], n[3], 1);
        both(scene, "firm", n[0], n[5], 1);
        both(scene, "firm", n[1], n[3], 2);
        both(scene, "firm", n[2], n[4], 2);
        new Play(scene).due("piece(" + n[2] + ", 4)", 2);
    }

    private static String tie(int a, int b, int strength) {
        return "tie(" + a + ", " + b + ", " + strength + ")";
    }

    private static void hold() {
        String[] two = {"addBarrel(0, 0, 20, 0)", "addBarrel(1, 0, 20, 0)"};
        Sentences.of("18: the greatest n so that there is a way by lashings of at least n", () -> {
            both(LADDER, "hold", 0, 1, 9);
            both(LADDER, "hold", 0, 2, 8);
            both(LADDER, "hold", 0, 3, 7);
            both(LADDER, "hold", 1, 3, 7);
            both(LADDER, "hold", 0, 6, 2);
            both(LADDER, "hold", 3, 7, 1);
        });
        Sentences.of("18: around, where that holds more than the lashing between both", () -> {
            both(LADDER, "hold", 3, 4, 6);
            both(LADDER, "hold", 4, 5, 5);
            both(RING, "hold", 0, 1, 6);
        });
        Sentences.of("18: the lashing between both, where around does not hold more", () -> {
            both(RING, "hold", 0, 3, 8);
            both(Play.and(RING, "tie(0, 1, 6)"), "hold", 0, 1, 6);
            both(Play.and(RING, "tie(0, 1, 7)"), "hold", 0, 1, 7);
        });
        Sentences.of("18: whichever way the barrels on the way are numbered", () -> {
            for (int order = 0; order < 120; order++) {
                chain(order);
            }
        });
        Sentences.of("18: at both ends, 1 and 50", () -> {
            both(Play.and(two, "tie(0, 1, 1)"), "hold", 0, 1, 1);
            both(Play.and(two, "tie(0, 1, 50)"), "hold", 0, 1, 50);
        });
        Sentences.of("18: the strength less the wear", () -> {
            String[] worn = Play.and(RING, "tie(0, 1, 50)", "tie(0, 3, 20)", "cut(1, 2)",
                    "addWater(0, 0, 30, 20, 0, 0, 7)", "pass(3)");
            both(worn, "hold", 0, 1, 47);
            both(worn, "hold", 1, 3, 17);
        });
        Sentences.of("18: 0 if there is no way", () -> {
            both(LADDER, "hold", 0, 8, 0);
            both(two, "hold", 0, 1, 0);
            both(Play.and(RING, "cut(0, 1)", "cut(2, 3)"), "hold", 0, 1, 0);
        });
        Sentences.of("18: 0 if there is no way, as the only lashing was cut or broke", () -> {
            String[] tied = Play.and(two, "tie(0, 1, 9)", "addWater(0, 0, 30, 20, 0, 0, 10)");
            both(tied, "hold", 0, 1, 9);
            both(Play.and(tied, "cut(0, 1)"), "hold", 0, 1, 0);
            both(Play.and(tied, "pass(1)"), "hold", 0, 1, 0);
        });
        Sentences.of("18: as strong as it is now, made anew or worn, after others were cut", () -> {
            String[] last = Play.and(RING, "tie(2, 3, 40)", "cut(0, 1)", "cut(0, 3)", "cut(1, 2)");
            both(last, "hold", 2, 3, 40);
            both(Play.and(last, "tie(2, 3, 3)"), "hold", 2, 3, 3);
            both(Play.and(last, "addWater(0, 0, 30, 20, 0, 0, 20)", "pass(2)"), "hold", 2, 3, 30);
        });
        Sentences.of("18: 0 if there is no way, as one does not float", () -> {
            both(FATES, "hold", 1, 2, 0);
            both(FATES, "hold", 1, 3, 0);
            both(Play.and(RING, "setWind(2, 0)", "pass(15)"), "hold", 0, 1, 0);
            both(Play.and(RING, "load(0, 30)", "load(1, 7)", "pass(1)"), "hold", 0, 1, 0);
        });
        Sentences.of("18: 0 if both are the same", () -> {
            Play.answers(LADDER, 0, Play.each("hold(#, #)", 0, 4, 8));
            Play.answers(FATES, 0, Play.each("hold(#, #)", 0, 2, 3));
        });
    }

    /** Both calls are refused in the same way. */
    private static void refused(int promise, String call) {
        Sentences.of(promise + ": IndexOutOfBoundsException if there is no barrel a", () -> {
            Play.answers(LADDER, 0, call + "(8, 0)");
            Play.refuses(LADDER, Play.INDEX, Play.outside(call + "(#, 0)", 0, 8));
            Play.refuses(Scenes.FULL, Play.INDEX, call + "(24, 0)");
            Play.answers(Scenes.FULL, 0, call + "(23, 0)");
        });
        Sentences.of(promise + ": IndexOutOfBoundsException if there is no barrel b", () -> {
            Play.answers(LADDER, 0, call + "(0, 8)");
            Play.refuses(LADDER, Play.INDEX, Play.outside(call + "(0, #)", 0, 8));
            Play.refuses(Scenes.NEW, Play.INDEX, call + "(0, 1)");
        });
        Sentences.of(promise + ": no such barrel, also if both are the same", () -> {
            Play.refuses(LADDER, Play.INDEX, Play.outside(call + "(#, #)", 0, 8));
            Play.refuses(Scenes.NEW, Play.INDEX, call + "(0, 0)");
        });
    }

    private static void piece() {
        Sentences.of("19: the barrels of its piece: 1 alone, 8 of 9, all 24", () -> {
            new Play(LADDER).due("piece(8, 0)", 1).dues("piece(#, 0)", 8, 8, 8, 8, 8, 8, 8, 8, 1);
            new Play(Scenes.FULL).due("piece(10, 0)", 11).due("piece(23, 0)", 1);
        });
        Sentences.of("19: what they lift, less their water, and no other ones", () ->
                new Play("addBarrel(0, 0, 40, 9)", "addBarrel(1, 0, 33, 1)", "addBarrel(3, 0, 1, 0)", "tie(0, 1, 9)")
                        .dues("piece(#, 1)", 73, 73, 1).due("pass(1)", 0).dues("piece(#, 1)", 68, 68, 1)
                        .due("pass(11)", 0).dues("piece(#, 1)", 29, 29, 1));
        Sentences.of("19: their loads, 0 with nothing on them", () ->
                new Play(Play.and(Scenes.barrels(3), "tie(0, 1, 9)")).dues("piece(#, 2)", 0, 0, 0)
                        .due("load(1, 30)", 0).due("addCastaway(0)", 0).due("load(2, 4)", 0)
                        .dues("piece(#, 2)", 37, 37, 4));
        Sentences.of("19: the castaways on it, 0 to 8", () -> {
            Play x = new Play(Play.and(Scenes.barrels(3), "tie(0, 1, 9)", "load(0, 9)")).dues("piece(#, 3)", 0, 0, 0);
            x.due("addCastaway(2)", 0).dues("piece(#, 3)", 0, 0, 1);
            for (int n = 1; n < 8; n++) {
                x.due("addCastaway(" + n % 2 + ")", n).dues("piece(#, 3)", n, n, 1);
            }
            x.due("tie(1, 2, 9)", 8).dues("piece(#, 3)", 8, 8, 8);
        });
        Sentences.of("19: the lashings without which it would be two pieces each: none", () -> {
            new Play(Scenes.barrels(1)).due("piece(0, 4)", 0);
            new Play(RING).dues("piece(#, 4)", 0, 0, 0, 0);
        });
        Sentences.of("19: the lashings without which it would be two pieces: all", () -> {
            new Play(Play.and(RING, "cut(0, 1)")).dues("piece(#, 4)", 3, 3, 3, 3);
            new Play(Play.and(Scenes.barrels(2), "tie(0, 1, 1)")).dues("piece(#, 4)", 1, 1);
            new Play(Play.and(Scenes.barrels(8), "tie(0, 1, 1)", "tie(1, 2, 1)", "tie(2, 3, 1)", "tie(3, 4, 1)",
                    "tie(4, 5, 1)", "tie(5, 6, 1)", "tie(6, 7, 1)")).due("piece(3, 4)", 7);
        });
        Sentences.of("19: some of its lashings, and none of another piece", () ->
                new Play(Play.and(LADDER, "addBarrel(7, 6, 9, 0)", "tie(8, 9, 9)"))
                        .dues("piece(#, 4)", 2, 2, 2, 2, 2, 2, 2, 2, 1, 1).due("cut(8, 9)", 1)
                        .due("piece(8, 4)", 0).due("piece(0, 4)", 2));
        Sentences.of("19: two rings with a lashing between them", () ->
                new Play("addBarrel(0, 0, 9, 0)", "addBarrel(1, 0, 9, 0)", "addBarrel(1, 1, 9, 0)",
                        "addBarrel(0, 1, 9, 0)", "addBarrel(2, 0, 9, 0)", "addBarrel(3, 0, 9, 0)",
                        "addBarrel(3, 1, 9, 0)", "addBarrel(2, 1, 9, 0)", "tie(0, 1, 5)", "tie(1, 2, 6)",
                        "tie(2, 3, 7)", "tie(3, 0, 8)", "tie(1, 4, 5)", "tie(4, 5, 5)", "tie(5, 6, 5)", "tie(6, 7, 5)",
                        "tie(7, 4, 5)").dues("piece(#, 4)", 1, 1, 1, 1, 1, 1, 1, 1).due("tie(2, 7, 5)", 0)
                        .due("piece(0, 4)", 0).due("cut(0, 1)", 1).due("piece(7, 4)", 2));
        Sentences.of("19: 0 if it does not float: lost", () ->
                new Play(FATES).dues("piece(2, #)", 0, 0, 0, 0, 0));
        Sentences.of("19: 0 if it does not float: saved, with its goods", () ->
                new Play(FATES).dues("piece(3, #)", 0, 0, 0, 0, 0));
    }

    private static void pieceRefused() {
        Sentences.of("19: IndexOutOfBoundsException if there is no such barrel", () -> {
            Play.answers(FATES, 2, "piece(0, 0)", "piece(1, 0)");
            Play.answers(FATES, 0, "piece(3, 0)");
            Play.refuses(FATES, Play.INDEX, Play.outside("piece(#, 0)", 0, 3));
            Play.refuses(Scenes.NEW, Play.INDEX, "piece(0, 0)");
            Play.answers(Scenes.FULL, 1, "piece(23, 0)");
            Play.refuses(Scenes.FULL, Play.INDEX, "piece(24, 0)");
        });
        Sentences.of("19: IndexOutOfBoundsException if what is not 0 to 4", () -> {
            new Play(FATES).dues("piece(0, #)", 2, 40, 27, 1, 1);
            Play.refuses(FATES, Play.INDEX, Play.outside("piece(0, #)", 0, 4));
        });
        Sentences.of("19: what is not 0 to 4, also if the barrel does not float", () ->
                Play.refuses(FATES, Play.INDEX, "piece(2, 5)", "piece(2, -1)", "piece(3, 5)", "piece(3, -1)"));
    }
}
