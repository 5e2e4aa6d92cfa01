/** Counts the answers that are not the due ones, and ends the run with exit code 1 if there was one. */
final class Due {
    interface Scene {
        BarrelRaft make();
    }

    interface Call {
        void on(BarrelRaft x);
    }

    private static int wrong = 0;
    private static int asked = 0;

    static void is(String call, long got, long want) {
        asked++;
        if (got != want) {
            wrong++;
            System.out.println(call + " answered " + got + ", due is " + want);
        }
    }

    static void isDouble(String call, double got, double want) {
        asked++;
        if (got != want) {
            wrong++;
            System.out.println(call + " answered " + got + ", due is " + want);
        }
    }

    /** The call throws exactly this class, and the object goes on as one that was never asked. */
    static void refuses(String call, Class<?> want, Scene scene, Call on) {
        asked++;
        BarrelRaft asking = scene.make();
        String got = "nothing";
        try {
            on.on(asking);
        } catch (RuntimeException e) {
            got = e.getClass().getName();
        }
        if (!got.equals(want.getName())) {
            wrong++;
            System.out.println(call + " threw " + got + ", due is " + want.getName());
        }
        String due = portrait(scene.make());
        String is = portrait(asking);
        if (!is.equals(due)) {
            wrong++;
            System.out.println(call + " changed something:\n  " + is + "\n  due is\n  " + due);
        }
    }

    static void refusesIndex(String call, Scene scene, Call on) {
        refuses(call, IndexOutOfBoundsException.class, scene, on);
    }

    static void refusesArgument(String call, Scene scene, Call on) {
        refuses(call, IllegalArgumentException.class, scene, on);
    }

    static void refusesState(String call, Scene scene, Call on) {
        refuses(call, IllegalStateException.class, scene, on);
    }

    /** What is seen of an object now and in the hours to come: some 150 calls, far under the 512. */
    private static String portrait(BarrelRaft x) {
        StringBuilder text = new StringBuilder();
        for (int place = 0; place < 600; place += 29) {
            for (int what = 0; what < 5; what++) {
                text.append(x.sea(place % 30, place / 30, what)).append(',');
            }
        }
        text.append(x.digest());
        for (int hours = 1; hours <= 16; hours *= 4) {
            text.append(';').append(x.pass(hours)).append(',').append(x.digest());
        }
        text.append(";wind ").append(x.setWind(0, 0));
        try {
            text.append(";next water ").append(x.addWater(0, 0, 1, 1, 0, 0, 0));
        } catch (IllegalStateException e) {
            text.append(";no next water");
        }
        return text.toString();
    }

    static void end(String test) {
        System.out.println(test + ": " + asked + " asked, " + wrong + " wrong");
        if (wrong != 0 || asked == 0) {
            System.exit(1);
        }
    }
}
