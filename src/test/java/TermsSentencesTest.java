import java.util.ArrayList;
import java.util.Arrays;
import java.util.List;

/**
 * The sentences of the chapters "What it is" and "Terms" that hold at all times, whatever is called: looked
 * at along fixed runs of calls. Those of one call, or of one step of an hour, are with its promise.
 */
public final class TermsSentencesTest {
    private static final List<String[]> STATES = states();

    public static void main(String[] args) {
        whatItIs();
        objects();
        barrels();
        lashings();
        pieces();
        castaways();
        Sentences.end("TermsSentencesTest");
    }

    private interface Look {
        void at(Seen seen);
    }

    /** The numbers that an object answers in one state; a new object is made when one has been asked enough. */
    private static final class Seen {
        final String[] calls;
        private Play play;

        Seen(String[] calls) {
            this.calls = calls;
        }

        int of(String call) {
            if (play == null || play.left() == 0) {
                play = after(calls);
            }
            return Integer.parseInt(play.ask(call));
        }

        int barrel(int b, int what) {
            return of("barrel(" + b + ", " + what + ")");
        }

        boolean floats(int b) {
            return barrel(b, 6) == 0;
        }

        boolean tied(int a, int b) {
            return of("lashing(" + a + ", " + b + ", 0)") > 0;
        }

        void is(String what, boolean holds) {
            if (!holds) {
                Sentences.fails("not so: " + what + ", after " + String.join(", ", calls));
            }
        }

        void within(String call, int low, int high) {
            int got = of(call);
            is(call + " is " + got + ", due is " + low + " to " + high, got >= low && got <= high);
        }
    }

    /** Each run, cut off here and there. */
    private static List<String[]> states() {
        List<String[]> all = new ArrayList<>();
        for (String[] run : Runs.all()) {
            for (int end = run.length; end > 40; end -= 37) {
                all.add(Arrays.copyOf(run, end));
            }
        }
        return all;
    }

    private static Play after(String[] calls) {
        Play play = new Play();
        for (String call : calls) {
            play.ask(call);
        }
        return play;
    }

    private static void always(String sentence, Look look) {
        Sentences.of(sentence, () -> {
            for (String[] state : STATES) {
                look.at(new Seen(state));
            }
        });
    }

    private static void whatItIs() {
        String[] scene = {"addWater(0, 0, 30, 10, 2, 0, 0)", "addWater(0, 10, 30, 10, 1, -1, 6)",
            "addBarrel(0, 0, 30, 2)", "addBarrel(1, 0, 20, 0)", "addBarrel(1, 1, 12, 0)", "addBarrel(7, 7, 8, 4)",
            "setWind(0, 1)", "tie(0, 1, 12)", "tie(1, 2, 30)", "addCastaway(0)", "addCastaway(2)",
            "addCastaway(3)", "load(2, 5)"};
        Sentences.of("what it is: barrels are lashed, carry goods and people, and take in water", () ->
                new Play(scene).due("count(8)", 2).dues("barrel(#, 12)", 7, 0, 12, 7).due("piece(0, 2)", 19)
                        .due("spare()", 11.0).due("pass(1)", 0).dues("barrel(#, 4)", 2, 0, 0, 4));
        Sentences.of("what it is: it is told what hangs together and how firmly, and who will be saved", () ->
                new Play(scene).due("firm(0, 2)", 1).due("hold(0, 2)", 12).due("piece(0, 4)", 2)
                        .due("foresee(18, 1)", 0).due("foresee(19, 1)", 1).due("foresee(28, 1)", 2)
                        .due("foresee(3, 0)", 4).due("foresee(4, 0)", 3).due("foresee(29, 0)", 0)
                        .due("advise(28)", -1));
        Sentences.of("what it is: waves wear the lashings, and break them, so that pieces drift apart", () ->
                new Play(scene).due("pass(2)", 0).dues("lashing(0, 1, #)", 12, 4, 9)
                        .dues("lashing(1, 2, #)", 30, 6, 12).due("pass(1)", 1).dues("barrel(#, 7)", 0, 1, 1, 3)
                        .due("pass(4)", 0).due("pass(1)", 1).dues("barrel(#, 7)", 0, 1, 2, -1)
                        .dues("barrel(#, 8)", 8, 8, 8, 5).dues("barrel(#, 9)", 10, 10, 9, 9));
        Sentences.of("what it is: currents carry each piece its own way, to the shore or to no end", () ->
                new Play(scene).due("pass(28)", 2).dues("barrel(#, 6)", 2, 0, 2, 1).dues("castaway(#, 1)", 2, 2, 1)
                        .dues("barrel(#, 8)", 29, 28, 29, 5).due("count(11)", 5).due("setWind(-2, 1)", 13)
                        .due("pass(100)", 0).due("barrel(1, 6)", 0).due("barrel(1, 8)", 0)
                        .due("barrel(1, 9)", 10).due("count(0)", 128));
    }

    private static void objects() {
        Sentences.of("what it is: two objects share nothing", () -> {
            for (int i = 1; i < STATES.size(); i++) {
                Play one = new Play();
                Play other = new Play();
                String[] first = STATES.get(i - 1);
                String[] second = STATES.get(i);
                for (int call = 0; call < first.length || call < second.length; call++) {
                    if (call < first.length) {
                        one.ask(first[call]);
                    }
                    if (call < second.length) {
                        other.ask(second[call]);
                        other.ask("foresee(9, 0)");
                    }
                }
                one.due("digest()", after(first).ask("digest()"));
                other.due("digest()", after(second).ask("digest()"));
            }
        });
        Sentences.of("what it is: the same calls are answered the same", () -> {
            for (String[] state : STATES) {
                Play one = new Play();
                Play other = new Play();
                for (String call : state) {
                    other.due(call, one.ask(call));
                }
            }
        });
    }

    private static void barrels() {
        always("terms: no two barrels are on one place of the board, lost and saved ones too", seen -> {
            boolean[] taken = new boolean[64];
            for (int b = 0; b < seen.of("count(1)"); b++) {
                int place = seen.barrel(b, 0) + 8 * seen.barrel(b, 1);
                seen.is("barrel " + b + " alone at " + place, place >= 0 && place < 64 && !taken[place]);
                taken[place] = true;
            }
        });
        always("terms: water is 0 to 100, goods 0 to 30; it floats, is lost, or is saved", seen -> {
            int[] fates = new int[3];
            for (int b = 0; b < seen.of("count(1)"); b++) {
                seen.within("barrel(" + b + ", 2)", 1, 40);
                seen.within("barrel(" + b + ", 3)", 0, 9);
                seen.within("barrel(" + b + ", 4)", 0, 100);
                seen.within("barrel(" + b + ", 5)", 0, 30);
                fates[seen.barrel(b, 6)]++;
            }
            seen.is("count(2)", seen.of("count(2)") == fates[0]);
            seen.is("count(3)", seen.of("count(3)") == fates[2]);
            seen.within("count(1)", 0, 24);
        });
        always("terms: its load is its goods and 7 for each castaway; it lifts lift * (100 less water) / 100", seen -> {
            int[] people = new int[24];
            for (int c = 0; c < seen.of("count(4)"); c++) {
                int on = seen.of("castaway(" + c + ", 0)");
                if (on >= 0) {
                    people[on]++;
                }
            }
            for (int b = 0; b < seen.of("count(1)"); b++) {
                seen.is("load of " + b, seen.barrel(b, 12) == seen.barrel(b, 5) + 7 * people[b]);
                seen.is("lift of " + b, seen.barrel(b, 11) == seen.barrel(b, 2) * (100 - seen.barrel(b, 4)) / 100);
            }
        });
        always("terms: it is in the sea, and at the shore only if saved", seen -> {
            for (int b = 0; b < seen.of("count(1)"); b++) {
                seen.within("barrel(" + b + ", 8)", 0, 29);
                seen.within("barrel(" + b + ", 9)", 0, 19);
                seen.is("fate of " + b, (seen.barrel(b, 8) == 29) == (seen.barrel(b, 6) == 2));
            }
        });
    }

    private static boolean sideBySide(Seen seen, int a, int b) {
        int columns = Math.abs(seen.barrel(a, 0) - seen.barrel(b, 0));
        int rows = Math.abs(seen.barrel(a, 1) - seen.barrel(b, 1));
        return columns + rows == 1;
    }

    private static void lashings() {
        always("terms: a lashing is between two barrels that float, side by side", seen -> {
            int found = 0;
            for (int b = 0; b < seen.of("count(1)"); b++) {
                for (int a = 0; a < b; a++) {
                    if (seen.tied(a, b)) {
                        found++;
                        seen.is(a + " and " + b + " float", seen.floats(a) && seen.floats(b));
                        seen.is(a + " and " + b + " side by side", sideBySide(seen, a, b));
                    }
                }
            }
            seen.is("count(7)", seen.of("count(7)") == found);
        });
        always("terms: its strength is 1 to 50, its wear 0 or more, and it holds yet", seen -> {
            for (int b = 0; b < seen.of("count(1)"); b++) {
                for (int a = 0; a < b; a++) {
                    if (seen.tied(a, b)) {
                        int strength = seen.of("lashing(" + b + ", " + a + ", 0)");
                        seen.within("lashing(" + b + ", " + a + ", 0)", 1, 50);
                        seen.within("lashing(" + b + ", " + a + ", 1)", 0, strength - 1);
                    }
                }
            }
        });
        always("terms: there are ropes, 0 to 40, and none comes but by a cut", seen -> {
            seen.within("count(9)", 0, 10);
            seen.is("ropes and lashings", seen.of("count(9)") + seen.of("count(7)") <= 10);
        });
    }

    private static void pieces() {
        always("terms: a piece is all that float and hang together by lashings, named by the smallest number", seen -> {
            int all = seen.of("count(1)");
            int[] name = new int[all];
            int names = 0;
            for (int b = 0; b < all; b++) {
                name[b] = seen.floats(b) ? b : -1;
                for (int a = 0; a < b; a++) {
                    if (seen.tied(a, b)) {
                        join(name, a, b);
                    }
                }
            }
            for (int b = 0; b < all; b++) {
                names += name[b] == b ? 1 : 0;
                seen.is("piece of " + b, seen.barrel(b, 7) == name[b]);
            }
            seen.is("count(8)", seen.of("count(8)") == names);
        });
        always("terms: all barrels of a piece are at one place of the sea", seen -> {
            for (int b = 0; b < seen.of("count(1)"); b++) {
                int name = seen.barrel(b, 7);
                if (name >= 0) {
                    seen.is("x of " + b, seen.barrel(b, 8) == seen.barrel(name, 8));
                    seen.is("y of " + b, seen.barrel(b, 9) == seen.barrel(name, 9));
                }
            }
        });
    }

    private static void join(int[] name, int a, int b) {
        int low = Math.min(name[a], name[b]);
        int high = Math.max(name[a], name[b]);
        for (int i = 0; i < name.length; i++) {
            if (name[i] == high) {
                name[i] = low;
            }
        }
    }

    private static void castaways() {
        always("terms: each castaway is on a barrel that floats, or lost, or saved", seen -> {
            int[] fates = new int[3];
            for (int c = 0; c < seen.of("count(4)"); c++) {
                int on = seen.of("castaway(" + c + ", 0)");
                int fate = seen.of("castaway(" + c + ", 1)");
                seen.is("castaway " + c, fate == 0 ? on >= 0 && seen.floats(on) : on == -1);
                fates[fate]++;
            }
            seen.is("count(5)", seen.of("count(5)") == fates[0]);
            seen.is("count(6)", seen.of("count(6)") == fates[2]);
            seen.within("count(4)", 0, 8);
        });
    }
}
