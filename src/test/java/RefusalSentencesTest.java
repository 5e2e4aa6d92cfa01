import java.util.List;

/**
 * The sentences on exceptions that hold for all promises: a method that throws an exception changes nothing;
 * of several exceptions the one that is named first is thrown; and no other one is ever thrown.
 */
public final class RefusalSentencesTest {
    private static final String INDEX = Play.INDEX;
    private static final String ARGUMENT = Play.ARGUMENT;
    private static final String STATE = Play.STATE;

    /** Two float tied to each other, one is lost, one is saved; 8 waters, 8 castaways, and no rope. */
    private static final String[] SPENT = Play.and(Play.and(Play.and(Scenes.FATES,
            Scenes.times(9, "tie(0, 1, 40)")), Scenes.times(7, "addWater(0, 9, 30, 2, 1, 1, 4)")),
            Play.each("addCastaway(#)", 0, 1, 1, 0, 1));

    private static final int[] WILD = {Play.LEAST, -1, 0, 1, 2, 8, 24, 51, Play.GREATEST};
    private static final int[] FEW_WILD = {Play.LEAST, -1, 1, Play.GREATEST};

    public static void main(String[] args) {
        changesNothing();
        firstNamed();
        noOther();
        Sentences.end("RefusalSentencesTest");
    }

    /** Asked one after the other of one object, which then is as one that was never asked. */
    private static void unchanged(String promise, String... refused) {
        Sentences.of(promise + ": a method that throws an exception changes nothing", () -> {
            Play.changesNothingTogether(SPENT, refused);
            Play.changesNothing(SPENT, refused);
            Play x = new Play(SPENT);
            for (String call : refused) {
                if (!x.ask(call).startsWith("throws.")) {
                    Sentences.fails(call + " threw nothing");
                }
            }
        });
    }

    private static void changesNothing() {
        unchanged("2", "addWater(30, 0, 1, 1, 0, 0, 0)", "addWater(0, 0, 30, 20, 2, 2, 21)",
                "addWater(0, 0, 30, 20, 2, 2, 20)");
        unchanged("3", "sea(30, 0, 0)", "sea(0, 20, 0)", "sea(0, 0, 5)");
        unchanged("4", "setWind(1, 3)", "setWind(3, 1)");
        unchanged("5", "addBarrel(5, 5, 9, 10)", "addBarrel(5, 8, 9, 0)", "addBarrel(0, 0, 9, 0)",
                "addBarrel(2, 0, 9, 0)", "addBarrel(1, 1, 9, 0)");
        unchanged("6", "tie(0, 4, 5)", "tie(0, 0, 5)", "tie(0, 1, 51)", "tie(1, 3, 5)", "tie(0, 1, 5)");
        unchanged("7", "cut(0, 4)", "cut(1, 2)", "cut(3, 1)", "cut(0, 0)");
        unchanged("8", "load(4, 5)", "load(0, 31)", "load(2, 5)", "load(3, 5)");
        unchanged("9", "barrel(4, 0)", "barrel(0, 13)");
        unchanged("10", "lashing(0, 4, 0)", "lashing(0, 1, 3)");
        unchanged("11", "addCastaway(4)", "addCastaway(2)", "addCastaway(3)", "addCastaway(0)");
        unchanged("12", "go(8, 1)", "go(2, 4)", "go(0, 1)", "go(1, 1)", "go(2, 2)", "go(2, 0)");
        unchanged("13", "bail(8)", "bail(0)", "bail(1)");
        unchanged("14", "castaway(8, 0)", "castaway(0, 2)");
        unchanged("15", "pass(0)", "pass(101)");
        unchanged("16", "count(-1)", "count(12)");
        unchanged("17", "firm(0, 4)", "firm(-1, 0)");
        unchanged("18", "hold(0, 4)", "hold(-1, 0)");
        unchanged("19", "piece(4, 0)", "piece(0, 5)");
        unchanged("20", "foresee(0, 0)", "foresee(101, 0)", "foresee(1, 4)");
        unchanged("21", "advise(0)", "advise(51)");
    }

    private static void first(String promise, String want, String... calls) {
        Sentences.of(promise + ": if several exceptions apply, the one that is named first is thrown", () ->
                Play.refuses(SPENT, want, calls));
    }

    private static void firstNamed() {
        first("2", ARGUMENT, "addWater(-1, 0, 1, 1, 0, 0, 0)", "addWater(0, 0, 1, 1, 0, 0, 21)");
        first("5", ARGUMENT, "addBarrel(0, 0, 41, 0)", "addBarrel(2, 0, 1, 10)", "addBarrel(1, 1, 0, 0)");
        first("6, index", INDEX, "tie(4, 4, 5)", "tie(0, 4, 0)", "tie(2, 4, 5)", "tie(4, 4, 51)", "tie(4, 2, 0)");
        first("6, argument", ARGUMENT, "tie(2, 2, 5)", "tie(0, 1, 0)", "tie(1, 3, 51)", "tie(0, 3, 0)");
        first("7", INDEX, "cut(2, 4)", "cut(4, 4)");
        first("8, index", INDEX, "load(4, 31)", "load(-1, -1)");
        first("8, argument", ARGUMENT, "load(2, 31)", "load(3, -1)");
        first("11", INDEX, "addCastaway(4)", "addCastaway(-1)");
        first("12", INDEX, "go(0, 4)", "go(1, -1)", "go(8, 2)");
        first("20", ARGUMENT, "foresee(0, 4)", "foresee(101, -1)");
    }

    /** Of all calls with these numbers, in this order, asked of objects that start from this scene. */
    private static void throwsOnly(String[] scene, String name, int numbers, int[] wild, String... named) {
        int all = 1;
        for (int i = 0; i < numbers; i++) {
            all *= wild.length;
        }
        Play x = new Play(scene);
        for (int n = 0; n < all; n++) {
            StringBuilder call = new StringBuilder(name).append('(');
            int rest = n;
            for (int i = 0; i < numbers; i++) {
                call.append(i == 0 ? "" : ", ").append(wild[rest % wild.length]);
                rest /= wild.length;
            }
            x = x.left() > 0 ? x : new Play(scene);
            String got = x.ask(call.append(')').toString());
            if (got.startsWith("throws.") && !List.of(named).contains(got)) {
                Sentences.fails(call + " answered " + got);
            }
        }
    }

    private static void only(String promise, String name, int numbers, String... named) {
        Sentences.of(promise + ": nothing but the named exceptions reaches the caller", () -> {
            for (String[] scene : new String[][] {Scenes.NEW, Scenes.FATES, SPENT, Scenes.FULL}) {
                throwsOnly(scene, name, numbers, numbers > 4 ? FEW_WILD : WILD, named);
            }
        });
    }

    private static void noOther() {
        only("2", "addWater", 7, ARGUMENT, STATE);
        only("3", "sea", 3, INDEX);
        only("4", "setWind", 2, ARGUMENT);
        only("5", "addBarrel", 4, ARGUMENT, STATE);
        only("6", "tie", 3, INDEX, ARGUMENT, STATE);
        only("7", "cut", 2, INDEX, STATE);
        only("8", "load", 2, INDEX, ARGUMENT, STATE);
        only("9", "barrel", 2, INDEX);
        only("10", "lashing", 3, INDEX);
        only("11", "addCastaway", 1, INDEX, STATE);
        only("12", "go", 2, INDEX, STATE);
        only("13", "bail", 1, INDEX, STATE);
        only("14", "castaway", 2, INDEX);
        only("15", "pass", 1, ARGUMENT);
        only("16", "count", 1, INDEX);
        only("17", "firm", 2, INDEX);
        only("18", "hold", 2, INDEX);
        only("19", "piece", 2, INDEX);
        only("20", "foresee", 2, ARGUMENT, INDEX);
        only("21", "advise", 1, ARGUMENT);
        only("22", "spare", 0);
        only("23", "digest", 0);
    }
}
