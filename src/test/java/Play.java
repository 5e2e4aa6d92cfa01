import java.util.Arrays;

/**
 * An object and the calls on it, written as texts like "tie(0, 1, 50)", with the answers that are due. What
 * is not due is told to the sentence that is tested now. A scene is the calls that lead to a state.
 */
final class Play {
    static final String INDEX = "throws.IndexOutOfBoundsException";
    static final String ARGUMENT = "throws.IllegalArgumentException";
    static final String STATE = "throws.IllegalStateException";

    static final int LEAST = Integer.MIN_VALUE;
    static final int GREATEST = Integer.MAX_VALUE;

    /** The document promises nothing of later calls. */
    private static final int MOST_CALLS = 512;

    private final BarrelRaft x = new BarrelRaft();
    private int calls = 0;

    Play(String... scene) {
        for (String call : scene) {
            String got = ask(call);
            if (got.startsWith("throws.")) {
                Sentences.fails("ahead of the test, " + call + " answered " + got);
            }
        }
    }

    static String[] and(String[] scene, String... more) {
        String[] both = Arrays.copyOf(scene, scene.length + more.length);
        System.arraycopy(more, 0, both, scene.length, more.length);
        return both;
    }

    /** The same call with each of these numbers in the place of #. */
    static String[] each(String call, int... numbers) {
        String[] all = new String[numbers.length];
        for (int i = 0; i < numbers.length; i++) {
            all[i] = call.replace("#", "" + numbers[i]);
        }
        return all;
    }

    /** The same call with the numbers just outside of low to high, and those farthest off. */
    static String[] outside(String call, int low, int high) {
        return each(call, low - 1, high + 1, LEAST, GREATEST);
    }

    Play due(String call, Object want) {
        String got = ask(call);
        if (!got.equals("" + want)) {
            Sentences.fails(call + " answered " + got + ", due is " + want);
        }
        return this;
    }

    /** The same call with 0, 1, 2 .. in the place of #. */
    Play dues(String call, Object... wants) {
        for (int i = 0; i < wants.length; i++) {
            due(call.replace("#", "" + i), wants[i]);
        }
        return this;
    }

    /** Each call, asked of a new object in this scene, is answered so. */
    static void answers(String[] scene, Object want, String... calls) {
        for (String call : calls) {
            new Play(scene).due(call, want);
        }
    }

    /** Each call throws just this, and the object is as if it had not been asked. */
    static void refuses(String[] scene, String want, String... calls) {
        answers(scene, want, calls);
        changesNothing(scene, calls);
    }

    /** Each call by itself leaves an object in this scene as it was. */
    static void changesNothing(String[] scene, String... calls) {
        String due = portrait(scene);
        for (String call : calls) {
            if (!portrait(scene, call).equals(due)) {
                Sentences.fails(call + " changed something");
            }
        }
    }

    /** All calls together, asked one after the other, leave an object in this scene as it was. */
    static void changesNothingTogether(String[] scene, String... calls) {
        if (!portrait(scene, calls).equals(portrait(scene))) {
            Sentences.fails("these calls together changed something");
        }
    }

    String ask(String call) {
        spend(1);
        try {
            return answer(call);
        } catch (RuntimeException e) {
            return "throws." + e.getClass().getName().replace("java.lang.", "");
        }
    }

    /** How many calls the object is still good for. */
    int left() {
        return MOST_CALLS - calls;
    }

    private void spend(int asked) {
        calls += asked;
        if (calls > MOST_CALLS) {
            throw new IllegalStateException("this test asks an object more than " + MOST_CALLS + " times");
        }
    }

    private String answer(String call) {
        String name = call.substring(0, call.indexOf('('));
        String inside = call.substring(name.length() + 1, call.length() - 1);
        int[] n = inside.isEmpty() ? new int[0]
                : Arrays.stream(inside.split(",")).map(String::trim).mapToInt(Integer::parseInt).toArray();
        switch (name + " " + n.length) {
            case "addWater 7":
                return "" + x.addWater(n[0], n[1], n[2], n[3], n[4], n[5], n[6]);
            case "sea 3":
                return "" + x.sea(n[0], n[1], n[2]);
            case "setWind 2":
                return "" + x.setWind(n[0], n[1]);
            case "addBarrel 4":
                return "" + x.addBarrel(n[0], n[1], n[2], n[3]);
            case "tie 3":
                return "" + x.tie(n[0], n[1], n[2]);
            case "cut 2":
                return "" + x.cut(n[0], n[1]);
            case "load 2":
                return "" + x.load(n[0], n[1]);
            case "barrel 2":
                return "" + x.barrel(n[0], n[1]);
            case "lashing 3":
                return "" + x.lashing(n[0], n[1], n[2]);
            case "addCastaway 1":
                return "" + x.addCastaway(n[0]);
            case "go 2":
                return "" + x.go(n[0], n[1]);
            default:
                return question(name, n);
        }
    }

    private String question(String name, int[] n) {
        switch (name + " " + n.length) {
            case "bail 1":
                return "" + x.bail(n[0]);
            case "castaway 2":
                return "" + x.castaway(n[0], n[1]);
            case "pass 1":
                return "" + x.pass(n[0]);
            case "count 1":
                return "" + x.count(n[0]);
            case "firm 2":
                return "" + x.firm(n[0], n[1]);
            case "hold 2":
                return "" + x.hold(n[0], n[1]);
            case "piece 2":
                return "" + x.piece(n[0], n[1]);
            case "foresee 2":
                return "" + x.foresee(n[0], n[1]);
            case "advise 1":
                return "" + x.advise(n[0]);
            case "spare 0":
                return "" + x.spare();
            case "digest 0":
                return "" + x.digest();
            default:
                throw new AssertionError("no such call: " + name + " with " + n.length + " numbers");
        }
    }

    /**
     * All that is seen of a scene after these calls. All of the sea takes more calls than one object is good
     * for, so it is looked at a few rows at a time.
     */
    private static String portrait(String[] scene, String... calls) {
        StringBuilder text = new StringBuilder();
        for (int first = 0; first < 20; first += 4) {
            Play part = after(scene, calls);
            part.spend(360);
            for (int place = 30 * first; place < 30 * (first + 4); place++) {
                for (int what = 0; what < 3; what++) {
                    text.append(part.x.sea(place % 30, place / 30, what)).append(',');
                }
            }
        }
        for (int first = 0; first < 600; first += 300) {
            Play part = after(scene, calls);
            part.spend(300);
            for (int place = first; place < first + 300; place++) {
                text.append(part.x.sea(place % 30, place / 30, 3)).append(',');
            }
        }
        Play rest = after(scene, calls);
        text.append(rest.ask("digest()")).append(" wind ").append(rest.ask("setWind(1, 2)"));
        text.append(" next ").append(rest.ask("addWater(0, 0, 1, 1, 0, 0, 0)"));
        for (int hours = 1; hours <= 16; hours *= 4) {
            text.append(", ").append(rest.ask("pass(" + hours + ")")).append(' ').append(rest.ask("digest()"));
        }
        return text.toString();
    }

    private static Play after(String[] scene, String... calls) {
        Play play = new Play(scene);
        for (String call : calls) {
            play.ask(call);
        }
        return play;
    }
}
