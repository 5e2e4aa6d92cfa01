/** Promises 1 to 4, sentence by sentence: a new object, addWater, sea, setWind; and the sea of the terms. */
public final class SeaSentencesTest {
    private static final String[] NEW = {};
    private static final String[] SOME = {
        "addWater(3, 3, 9, 9, 1, 1, 3)", "addBarrel(0, 0, 20, 0)", "addBarrel(1, 0, 20, 0)", "load(0, 10)",
        "setWind(1, -1)"};
    private static final String[] SEVEN = {
        "addWater(0, 0, 30, 20, 1, 0, 3)", "addWater(1, 1, 5, 5, 2, 1, 4)", "addWater(2, 2, 5, 5, 0, 1, 5)",
        "addWater(3, 3, 5, 5, -1, 1, 6)", "addWater(4, 4, 5, 5, -2, 1, 7)", "addWater(5, 5, 5, 5, 1, 2, 8)",
        "addWater(0, 9, 5, 5, 1, -1, 9)", "addBarrel(0, 0, 20, 0)"};
    private static final String[] EIGHT = Play.and(SEVEN, "addWater(7, 7, 5, 5, 1, -2, 10)");

    public static void main(String[] args) {
        aNewObject();
        addWater();
        addWaterRefused();
        sea();
        setWind();
        Sentences.end("SeaSentencesTest");
    }

    private static void aNewObject() {
        Sentences.of("1: a sea without waters", () -> {
            for (int y = 0; y < 20; y++) {
                Play x = new Play();
                for (int column = 0; column < 30; column++) {
                    x.dues("sea(" + column + ", " + y + ", #)", 0, 0, 0, -1, 0);
                }
            }
            Play.answers(NEW, 0, "addWater(0, 0, 30, 20, 0, 0, 0)");
        });
        Sentences.of("1: at the hour 0", () -> Play.answers(NEW, 0, "count(0)"));
        Sentences.of("1: the first barrel lies at x 0, y 10", () ->
                new Play("addBarrel(7, 7, 1, 0)").due("barrel(0, 8)", 0).due("barrel(0, 9)", 10)
                        .due("sea(0, 10, 4)", 1));
        Sentences.of("1: a new object has no barrel, castaway, lashing or piece, and 10 ropes", () ->
                new Play().dues("count(#)", 0, 0, 0, 0, 0, 0, 0, 0, 0, 10, 0, 0));
        Sentences.of("terms: the wind has dx and dy 0 at first", () -> Play.answers(NEW, 12, "setWind(2, -2)"));
    }

    private static void addWater() {
        Sentences.of("2: returns its number, from 0", () ->
                new Play().due("addWater(0, 0, 1, 1, 0, 0, 0)", 0).due("addWater(0, 0, 1, 1, 0, 0, 0)", 1)
                        .due("addWater(9, 9, 2, 2, 0, 0, 0)", 2));
        Sentences.of("2: a refused one takes no number", () -> {
            Play x = new Play();
            x.due("addWater(0, 0, 1, 1, 0, 0, 21)", Play.ARGUMENT).due("addWater(0, 0, 1, 1, 0, 0, 20)", 0);
            x.due("addWater(30, 0, 1, 1, 0, 0, 0)", Play.ARGUMENT).due("addWater(29, 0, 1, 1, 0, 0, 0)", 1);
        });
        Sentences.of("2: x is its first column, wide how many", () -> covers(4, 5, 3, 2));
        Sentences.of("2: one place, the first of the sea", () -> covers(0, 0, 1, 1));
        Sentences.of("2: one place, the last of the sea", () -> covers(29, 19, 1, 1));
        Sentences.of("2: all the sea", () -> covers(0, 0, 30, 20));
        Sentences.of("2: one column, to the last row", () -> covers(29, 1, 1, 19));
        Sentences.of("2: one row, to the last column", () -> covers(1, 19, 29, 1));
        Sentences.of("2: dx, dy and wave are its own, at both ends", () -> {
            Play x = new Play("addWater(1, 1, 1, 1, -2, 2, 0)", "addWater(2, 2, 1, 1, 2, -2, 20)");
            x.dues("sea(1, 1, #)", -2, 2, 0, 0).dues("sea(2, 2, #)", 2, -2, 20, 1);
        });
        Sentences.of("terms: at most 8 waters, numbered 0 to 7", () ->
                new Play(SEVEN).due("addWater(29, 19, 1, 1, 1, 2, 20)", 7).dues("sea(29, 19, #)", 1, 2, 20, 7));
    }

    /** This water counts just where its rectangle is, and elsewhere none does. */
    private static void covers(int x, int y, int wide, int deep) {
        String water = "addWater(" + x + ", " + y + ", " + wide + ", " + deep + ", 1, -1, 7)";
        for (int row = 0; row < 20; row++) {
            Play play = new Play(water);
            for (int column = 0; column < 30; column++) {
                boolean in = column >= x && column < x + wide && row >= y && row < y + deep;
                String place = "sea(" + column + ", " + row + ", #)";
                if (in) {
                    play.dues(place, 1, -1, 7, 0);
                } else {
                    play.dues(place, 0, 0, 0, -1);
                }
            }
        }
    }

    private static void addWaterRefused() {
        refusedOutside("x is not 0 to 29", "addWater(#, 3, 1, 1, 0, 0, 0)", 0, 29);
        refusedOutside("y is not 0 to 19", "addWater(3, #, 1, 1, 0, 0, 0)", 0, 19);
        refusedOutside("dx is not -2 to 2", "addWater(3, 3, 2, 2, #, 0, 0)", -2, 2);
        refusedOutside("dy is not -2 to 2", "addWater(3, 3, 2, 2, 0, #, 0)", -2, 2);
        refusedOutside("wave is not 0 to 20", "addWater(3, 3, 2, 2, 0, 0, #)", 0, 20);
        Sentences.of("2: IllegalArgumentException if wide is less than 1", () -> {
            Play.answers(SOME, 1, "addWater(3, 3, 1, 4, 0, 0, 0)");
            Play.refuses(SOME, Play.ARGUMENT,
                    Play.each("addWater(3, 3, #, 4, 0, 0, 0)", 0, -1, -2, -30, Play.LEAST));
        });
        Sentences.of("2: IllegalArgumentException if deep is less than 1", () -> {
            Play.answers(SOME, 1, "addWater(3, 3, 4, 1, 0, 0, 0)");
            Play.refuses(SOME, Play.ARGUMENT,
                    Play.each("addWater(3, 3, 4, #, 0, 0, 0)", 0, -1, -2, -20, Play.LEAST));
        });
        Sentences.of("2: IllegalArgumentException if it is not all in the sea, by columns", () -> {
            Play.answers(SOME, 1, "addWater(0, 0, 30, 1, 0, 0, 0)", "addWater(12, 0, 18, 1, 0, 0, 0)",
                    "addWater(29, 0, 1, 1, 0, 0, 0)");
            Play.refuses(SOME, Play.ARGUMENT, "addWater(0, 0, 31, 1, 0, 0, 0)",
                    "addWater(12, 0, 19, 1, 0, 0, 0)", "addWater(29, 0, 2, 1, 0, 0, 0)");
        });
        Sentences.of("2: IllegalArgumentException if it is not all in the sea, by rows", () -> {
            Play.answers(SOME, 1, "addWater(0, 0, 1, 20, 0, 0, 0)", "addWater(0, 12, 1, 8, 0, 0, 0)",
                    "addWater(0, 19, 1, 1, 0, 0, 0)");
            Play.refuses(SOME, Play.ARGUMENT, "addWater(0, 0, 1, 21, 0, 0, 0)",
                    "addWater(0, 12, 1, 9, 0, 0, 0)", "addWater(0, 19, 1, 2, 0, 0, 0)");
        });
        Sentences.of("2: not all in the sea, also where x and wide together wrap around", () -> {
            Play.refuses(SOME, Play.ARGUMENT, Play.each("addWater(#, 0, " + Play.GREATEST + ", 1, 0, 0, 0)", 0, 1, 29));
            Play.refuses(SOME, Play.ARGUMENT, Play.each("addWater(0, #, 1, " + Play.GREATEST + ", 0, 0, 0)", 0, 1, 19));
        });
        Sentences.of("2: IllegalStateException if there are 8", () -> {
            Play.answers(SEVEN, 7, "addWater(0, 0, 30, 20, 0, 0, 0)");
            Play.refuses(EIGHT, Play.STATE, "addWater(0, 0, 30, 20, 0, 0, 0)", "addWater(0, 0, 1, 1, 2, 2, 20)",
                    "addWater(29, 19, 1, 1, 0, 0, 0)");
        });
        Sentences.of("2: with 8, what is a wrong argument is told first", () ->
                Play.refuses(EIGHT, Play.ARGUMENT, "addWater(-1, 0, 1, 1, 0, 0, 0)", "addWater(30, 0, 1, 1, 0, 0, 0)",
                        "addWater(0, -1, 1, 1, 0, 0, 0)", "addWater(0, 20, 1, 1, 0, 0, 0)",
                        "addWater(0, 0, 0, 1, 0, 0, 0)", "addWater(0, 0, 1, 0, 0, 0, 0)",
                        "addWater(0, 0, 31, 1, 0, 0, 0)", "addWater(0, 0, 1, 21, 0, 0, 0)",
                        "addWater(0, 0, 1, 1, 3, 0, 0)", "addWater(0, 0, 1, 1, -3, 0, 0)",
                        "addWater(0, 0, 1, 1, 0, 3, 0)", "addWater(0, 0, 1, 1, 0, -3, 0)",
                        "addWater(0, 0, 1, 1, 0, 0, 21)", "addWater(0, 0, 1, 1, 0, 0, -1)"));
    }

    private static void refusedOutside(String what, String call, int low, int high) {
        Sentences.of("2: IllegalArgumentException if " + what, () -> {
            Play.answers(SOME, 1, Play.each(call, low, high));
            Play.refuses(SOME, Play.ARGUMENT, Play.outside(call, low, high));
        });
    }

    private static void sea() {
        Sentences.of("3: IndexOutOfBoundsException if there is no such place, by columns", () -> {
            Play.answers(SEVEN, 0, "sea(0, 0, 3)", "sea(29, 0, 3)");
            Play.refuses(SEVEN, Play.INDEX, Play.outside("sea(#, 0, 3)", 0, 29));
        });
        Sentences.of("3: IndexOutOfBoundsException if there is no such place, by rows", () -> {
            Play.answers(SEVEN, 0, "sea(0, 0, 3)", "sea(0, 19, 3)");
            Play.refuses(SEVEN, Play.INDEX, Play.outside("sea(0, #, 3)", 0, 19));
        });
        Sentences.of("3: IndexOutOfBoundsException if what is not 0 to 4", () -> {
            new Play(SEVEN).dues("sea(0, 10, #)", 1, -1, 9, 6, 1);
            Play.refuses(SEVEN, Play.INDEX, Play.outside("sea(0, 10, #)", 0, 4));
        });
        Sentences.of("3: both wrong is refused as well", () ->
                Play.refuses(SEVEN, Play.INDEX, "sea(30, 20, 5)", "sea(-1, -1, -1)"));
        Sentences.of("3: the water that counts, -1 for none", () ->
                new Play("addWater(5, 5, 1, 1, 0, 0, 0)").due("sea(5, 5, 3)", 0).due("sea(4, 5, 3)", -1)
                        .due("sea(6, 5, 3)", -1).due("sea(5, 4, 3)", -1).due("sea(5, 6, 3)", -1));
        Sentences.of("terms: where there are several waters, that with the greatest number counts", () ->
                new Play(EIGHT).due("sea(0, 0, 3)", 0).due("sea(1, 1, 3)", 1).due("sea(2, 2, 3)", 2)
                        .due("sea(5, 5, 3)", 5).due("sea(7, 7, 3)", 7).dues("sea(9, 9, #)", 1, -2, 10, 7)
                        .dues("sea(6, 9, #)", 1, 2, 8, 5).dues("sea(4, 8, #)", -2, 1, 7, 4));
        Sentences.of("terms: where there is none, there is neither current nor wave", () -> {
            Play x = new Play("addWater(1, 0, 29, 20, 2, 2, 20)", "addBarrel(0, 0, 20, 0)",
                    "addBarrel(1, 0, 20, 0)", "tie(0, 1, 1)");
            x.dues("sea(0, 10, #)", 0, 0, 0, -1).due("lashing(0, 1, 2)", 0).due("pass(100)", 0);
            x.due("barrel(0, 8)", 0).due("barrel(0, 9)", 10).due("lashing(0, 1, 1)", 0);
        });
        Sentences.of("3: the barrels that float there: none, one, all 24", () -> {
            Play x = new Play();
            x.due("sea(0, 10, 4)", 0);
            for (int n = 0; n < 24; n++) {
                x.due("addBarrel(" + n % 8 + ", " + n / 8 + ", 1, 0)", n).due("sea(0, 10, 4)", n + 1);
            }
            x.due("sea(0, 9, 4)", 0).due("sea(0, 11, 4)", 0).due("sea(1, 10, 4)", 0);
        });
        Sentences.of("3: a lost barrel does not float there", () ->
                new Play("addBarrel(0, 0, 6, 0)", "addBarrel(1, 0, 6, 0)", "addCastaway(0)")
                        .due("sea(0, 10, 4)", 2).due("pass(1)", 0).due("sea(0, 10, 4)", 1));
        Sentences.of("3: a saved barrel does not float there", () ->
                new Play("addBarrel(0, 0, 6, 0)", "setWind(2, 0)", "pass(14)")
                        .due("sea(28, 10, 4)", 1).due("pass(1)", 0).due("sea(29, 10, 4)", 0));
    }

    private static void setWind() {
        Sentences.of("4: returns the wind before, 0 to 24", () -> {
            Play x = new Play();
            int before = 12;
            for (int dx = -2; dx <= 2; dx++) {
                for (int dy = -2; dy <= 2; dy++) {
                    x.due("setWind(" + dx + ", " + dy + ")", before);
                    before = 5 * (dx + 2) + dy + 2;
                }
            }
            x.due("setWind(0, 0)", 24);
        });
        Sentences.of("4: the wind that is set blows, by columns and by rows", () ->
                new Play("addBarrel(0, 0, 1, 0)", "setWind(2, -2)", "pass(1)")
                        .due("barrel(0, 8)", 2).due("barrel(0, 9)", 8).due("setWind(-1, 1)", 20)
                        .due("pass(1)", 0).due("barrel(0, 8)", 1).due("barrel(0, 9)", 9));
        Sentences.of("4: IllegalArgumentException if dx is not -2 to 2", () -> {
            Play.answers(SOME, 16, Play.each("setWind(#, 0)", -2, 2));
            Play.refuses(SOME, Play.ARGUMENT, Play.outside("setWind(#, 0)", -2, 2));
        });
        Sentences.of("4: IllegalArgumentException if dy is not -2 to 2", () -> {
            Play.answers(SOME, 16, Play.each("setWind(0, #)", -2, 2));
            Play.refuses(SOME, Play.ARGUMENT, Play.outside("setWind(0, #)", -2, 2));
        });
        Sentences.of("4: a refused wind does not blow, by half neither", () -> {
            Play x = new Play(SOME);
            x.due("setWind(2, 3)", Play.ARGUMENT).due("setWind(3, 2)", Play.ARGUMENT).due("setWind(0, 0)", 16);
        });
    }
}
