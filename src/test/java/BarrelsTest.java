/** Promises 5 to 10: addBarrel, tie, cut, load, barrel, lashing. */
public final class BarrelsTest {
    public static void main(String[] args) {
        addBarrel();
        addBarrelPlace();
        addBarrelRefuses();
        tie();
        tieRefuses();
        cut();
        load();
        barrel();
        lashing();
        Due.end("BarrelsTest");
    }

    /** Barrels 0, 1 and 2 in a row (1 and 2 tied), 3 far off on the board, 4 lost, 5 beside it. */
    private static BarrelRaft six() {
        BarrelRaft x = new BarrelRaft();
        x.addBarrel(0, 0, 40, 1);
        x.addBarrel(1, 0, 30, 0);
        x.addBarrel(2, 0, 20, 0);
        x.addBarrel(7, 7, 40, 0);
        x.addBarrel(1, 1, 3, 0);
        x.addBarrel(2, 1, 40, 0);
        x.load(4, 4);
        x.pass(1);
        x.tie(1, 2, 5);
        return x;
    }

    private static void addBarrel() {
        BarrelRaft x = new BarrelRaft();
        Due.is("5: first", x.addBarrel(0, 0, 1, 0), 0);
        Due.is("5: greatest", x.addBarrel(7, 7, 40, 9), 1);
        Due.is("5: third", x.addBarrel(7, 0, 2, 3), 2);
        Due.is("5: column", x.barrel(2, 0), 7);
        Due.is("5: row", x.barrel(2, 1), 0);
        Due.is("5: lift", x.barrel(1, 2), 40);
        Due.is("5: leak", x.barrel(1, 3), 9);
        for (int what = 4; what < 7; what++) {
            Due.is("5: barrel(2, " + what + ")", x.barrel(2, what), 0);
        }
        Due.is("5: a piece of its own", x.barrel(2, 7), 2);
        Due.is("5: pieces", x.count(8), 3);
    }

    private static void addBarrelPlace() {
        BarrelRaft x = new BarrelRaft();
        x.addBarrel(0, 0, 6, 0);
        x.addBarrel(1, 0, 40, 0);
        x.addBarrel(2, 0, 40, 0);
        x.load(2, 20);
        x.setWind(1, 1);
        x.pass(2);
        Due.is("5: at barrel 0", x.addBarrel(3, 0, 6, 0), 3);
        Due.is("5: its x", x.barrel(3, 8), 2);
        Due.is("5: its y", x.barrel(3, 9), 12);
        x.addCastaway(0);
        x.setWind(0, 0);
        x.pass(1);
        x.load(1, 30);
        x.setWind(2, 0);
        x.pass(1);
        Due.is("5: barrel 3 went by the wind", x.barrel(3, 8), 4);
        Due.is("5: barrel 1 floats, 0 does not", x.addBarrel(4, 0, 6, 0), 4);
        Due.is("5: its x", x.barrel(4, 8), 2);
        Due.is("5: its y", x.barrel(4, 9), 12);
        BarrelRaft y = new BarrelRaft();
        y.addWater(0, 0, 30, 20, 2, 2, 0);
        y.addBarrel(0, 0, 5, 0);
        y.pass(100);
        Due.is("5: saved", y.barrel(0, 6), 2);
        Due.is("5: none floats", y.addBarrel(1, 0, 5, 0), 1);
        Due.is("5: at x 0", y.barrel(1, 8), 0);
        Due.is("5: at y 10", y.barrel(1, 9), 10);
    }

    private static void addBarrelRefuses() {
        Due.refusesArgument("5: column -1", BarrelsTest::six, x -> x.addBarrel(-1, 0, 1, 0));
        Due.refusesArgument("5: column 8", BarrelsTest::six, x -> x.addBarrel(8, 0, 1, 0));
        Due.refusesArgument("5: row -1", BarrelsTest::six, x -> x.addBarrel(0, -1, 1, 0));
        Due.refusesArgument("5: row 8", BarrelsTest::six, x -> x.addBarrel(0, 8, 1, 0));
        Due.refusesArgument("5: lift 0", BarrelsTest::six, x -> x.addBarrel(5, 5, 0, 0));
        Due.refusesArgument("5: lift 41", BarrelsTest::six, x -> x.addBarrel(5, 5, 41, 0));
        Due.refusesArgument("5: leak -1", BarrelsTest::six, x -> x.addBarrel(5, 5, 1, -1));
        Due.refusesArgument("5: leak 10", BarrelsTest::six, x -> x.addBarrel(5, 5, 1, 10));
        Due.refusesState("5: one lies there", BarrelsTest::six, x -> x.addBarrel(2, 0, 1, 0));
        Due.refusesState("5: a lost one lies there", BarrelsTest::six, x -> x.addBarrel(1, 1, 1, 0));
        Due.refusesArgument("5: one lies there, lift 41", BarrelsTest::six, x -> x.addBarrel(2, 0, 41, 0));
        Due.Scene saved = () -> {
            BarrelRaft x = six();
            x.addWater(0, 0, 30, 20, 2, 0, 0);
            x.pass(30);
            return x;
        };
        Due.refusesState("5: a saved one lies there", saved, x -> x.addBarrel(2, 0, 1, 0));
        Due.Scene full = () -> {
            BarrelRaft x = new BarrelRaft();
            for (int n = 0; n < 24; n++) {
                Due.is("5: barrel", x.addBarrel(n % 8, n / 8, 9, 0), n);
            }
            return x;
        };
        Due.refusesState("5: a 25th", full, x -> x.addBarrel(7, 7, 1, 0));
        Due.refusesArgument("5: a wrong 25th", full, x -> x.addBarrel(7, 7, 1, 10));
    }

    private static void tie() {
        BarrelRaft x = six();
        Due.is("6: ropes", x.count(9), 9);
        Due.is("6: tie(1, 0, 50)", x.tie(1, 0, 50), 8);
        Due.is("6: strength", x.lashing(0, 1, 0), 50);
        Due.is("6: wear", x.lashing(0, 1, 1), 0);
        Due.is("6: by rows", x.tie(2, 5, 1), 7);
        Due.is("6: lashings", x.count(7), 3);
        Due.is("6: one piece", x.piece(5, 0), 4);
        x.addWater(0, 0, 30, 20, 0, 0, 9);
        x.pass(2);
        Due.is("6: worn", x.lashing(1, 0, 1), 4);
        Due.is("6: made anew", x.tie(0, 1, 7), 6);
        Due.is("6: its strength", x.lashing(0, 1, 0), 7);
        Due.is("6: its wear", x.lashing(0, 1, 1), 0);
        Due.is("6: no lashing more", x.count(7), 1);
        Due.is("6: a broken one is tied again", x.tie(1, 2, 9), 5);
        Due.is("6: lashings", x.count(7), 2);
    }

    private static void tieRefuses() {
        Due.refusesIndex("6: a -1", BarrelsTest::six, x -> x.tie(-1, 1, 5));
        Due.refusesIndex("6: a 6", BarrelsTest::six, x -> x.tie(6, 1, 5));
        Due.refusesIndex("6: b -1", BarrelsTest::six, x -> x.tie(1, -1, 5));
        Due.refusesIndex("6: b 6", BarrelsTest::six, x -> x.tie(1, 6, 5));
        Due.refusesIndex("6: both 6, strength 0", BarrelsTest::six, x -> x.tie(6, 6, 0));
        Due.refusesArgument("6: the same", BarrelsTest::six, x -> x.tie(1, 1, 5));
        Due.refusesArgument("6: strength 0", BarrelsTest::six, x -> x.tie(0, 1, 0));
        Due.refusesArgument("6: strength 51", BarrelsTest::six, x -> x.tie(0, 1, 51));
        Due.refusesArgument("6: strength 0, far off", BarrelsTest::six, x -> x.tie(0, 3, 0));
        Due.refusesArgument("6: the same lost one", BarrelsTest::six, x -> x.tie(4, 4, 5));
        Due.refusesState("6: a is lost", BarrelsTest::six, x -> x.tie(4, 5, 5));
        Due.refusesState("6: b is lost", BarrelsTest::six, x -> x.tie(1, 4, 5));
        Due.refusesState("6: far off", BarrelsTest::six, x -> x.tie(0, 3, 5));
        Due.refusesState("6: two columns off", BarrelsTest::six, x -> x.tie(0, 2, 5));
        Due.refusesState("6: crosswise", BarrelsTest::six, x -> x.tie(1, 5, 5));
        Due.Scene rowEnd = () -> {
            BarrelRaft x = new BarrelRaft();
            x.addBarrel(7, 0, 5, 0);
            x.addBarrel(0, 1, 5, 0);
            return x;
        };
        Due.refusesState("6: places 7 and 8 are not side by side", rowEnd, x -> x.tie(0, 1, 5));
        Due.Scene apart = () -> {
            BarrelRaft x = six();
            x.load(0, 20);
            x.setWind(1, 0);
            x.pass(1);
            x.setWind(0, 0);
            return x;
        };
        Due.refusesState("6: apart in the sea", apart, x -> x.tie(0, 1, 5));
        Due.Scene apartByRow = () -> {
            BarrelRaft x = six();
            x.load(0, 20);
            x.setWind(0, 1);
            x.pass(1);
            x.setWind(0, 0);
            return x;
        };
        Due.refusesState("6: apart by a row", apartByRow, x -> x.tie(1, 0, 5));
        Due.Scene noRope = () -> {
            BarrelRaft x = six();
            for (int n = 8; n >= 0; n--) {
                Due.is("6: ropes", x.tie(1, 2, 5 + n), n);
            }
            return x;
        };
        Due.refusesState("6: no rope", noRope, x -> x.tie(0, 1, 5));
        Due.refusesState("6: no rope to make one anew", noRope, x -> x.tie(1, 2, 5));
        Due.refusesArgument("6: no rope, strength 51", noRope, x -> x.tie(1, 2, 51));
    }

    private static void cut() {
        BarrelRaft x = six();
        x.tie(0, 1, 5);
        x.tie(2, 5, 6);
        Due.is("7: pieces", x.count(8), 2);
        Due.is("7: cut(2, 1)", x.cut(2, 1), 8);
        Due.is("7: ropes", x.count(9), 8);
        Due.is("7: lashings", x.count(7), 2);
        Due.is("7: pieces", x.count(8), 3);
        Due.is("7: barrel 5 goes with 2", x.barrel(5, 7), 2);
        Due.is("7: the other stays", x.lashing(2, 5, 0), 6);
        Due.is("7: cut(0, 1)", x.cut(0, 1), 9);
        Due.is("7: cut(5, 2)", x.cut(5, 2), 10);
        Due.is("7: none broke", x.count(10), 0);
        Due.refusesIndex("7: a -1", BarrelsTest::six, y -> y.cut(-1, 1));
        Due.refusesIndex("7: a 6", BarrelsTest::six, y -> y.cut(6, 1));
        Due.refusesIndex("7: b -1", BarrelsTest::six, y -> y.cut(1, -1));
        Due.refusesIndex("7: b 6", BarrelsTest::six, y -> y.cut(1, 6));
        Due.refusesState("7: no lashing", BarrelsTest::six, y -> y.cut(0, 1));
        Due.refusesState("7: the same", BarrelsTest::six, y -> y.cut(1, 1));
        Due.refusesState("7: a lost one", BarrelsTest::six, y -> y.cut(4, 5));
    }

    private static void load() {
        BarrelRaft x = six();
        Due.is("8: load(0, 30)", x.load(0, 30), 0);
        Due.is("8: load(0, 12)", x.load(0, 12), 30);
        Due.is("8: load(0, 0)", x.load(0, 0), 12);
        Due.is("8: goods", x.barrel(0, 5), 0);
        Due.is("8: load(5, 7)", x.load(5, 7), 0);
        Due.is("8: its load", x.barrel(5, 12), 7);
        Due.refusesIndex("8: barrel -1", BarrelsTest::six, y -> y.load(-1, 0));
        Due.refusesIndex("8: barrel 6", BarrelsTest::six, y -> y.load(6, 0));
        Due.refusesIndex("8: barrel 6, goods 31", BarrelsTest::six, y -> y.load(6, 31));
        Due.refusesArgument("8: goods -1", BarrelsTest::six, y -> y.load(0, -1));
        Due.refusesArgument("8: goods 31", BarrelsTest::six, y -> y.load(0, 31));
        Due.refusesArgument("8: lost, goods 31", BarrelsTest::six, y -> y.load(4, 31));
        Due.refusesState("8: lost", BarrelsTest::six, y -> y.load(4, 1));
    }

    private static void facts(BarrelRaft x, int barrel, int... due) {
        for (int what = 0; what < due.length; what++) {
            Due.is("9: barrel(" + barrel + ", " + what + ")", x.barrel(barrel, what), due[what]);
        }
    }

    private static void barrel() {
        BarrelRaft x = six();
        x.tie(1, 2, 50);
        x.tie(2, 5, 50);
        x.addCastaway(2);
        x.addCastaway(2);
        x.load(2, 3);
        facts(x, 0, 0, 0, 40, 1, 1, 0, 0, 0, 0, 10, 0, 39, 0);
        facts(x, 1, 1, 0, 30, 0, 0, 0, 0, 1, 0, 10, 1, 30, 0);
        facts(x, 2, 2, 0, 20, 0, 0, 3, 0, 1, 0, 10, 2, 20, 17);
        facts(x, 3, 7, 7, 40, 0, 0, 0, 0, 3, 0, 10, 0, 40, 0);
        facts(x, 4, 1, 1, 3, 0, 0, 0, 1, -1, 0, 10, 0, 3, 0);
        facts(x, 5, 2, 1, 40, 0, 0, 0, 0, 1, 0, 10, 1, 40, 0);
        x.addWater(0, 0, 30, 20, 2, -1, 0);
        x.pass(14);
        facts(x, 2, 2, 0, 20, 0, 0, 3, 0, 1, 28, 0, 2, 20, 17);
        x.pass(1);
        facts(x, 0, 0, 0, 40, 1, 16, 0, 2, -1, 29, 0, 0, 33, 0);
        facts(x, 2, 2, 0, 20, 0, 0, 3, 2, -1, 29, 0, 0, 20, 3);
        facts(x, 4, 1, 1, 3, 0, 0, 0, 1, -1, 0, 10, 0, 3, 0);
        Due.refusesIndex("9: barrel -1", BarrelsTest::six, y -> y.barrel(-1, 0));
        Due.refusesIndex("9: barrel 6", BarrelsTest::six, y -> y.barrel(6, 0));
        Due.refusesIndex("9: what -1", BarrelsTest::six, y -> y.barrel(0, -1));
        Due.refusesIndex("9: what 13", BarrelsTest::six, y -> y.barrel(0, 13));
        Due.refusesIndex("9: no barrel at all", BarrelRaft::new, y -> y.barrel(0, 0));
    }

    private static void lashing() {
        BarrelRaft x = six();
        x.addWater(0, 5, 1, 10, 0, 0, 4);
        x.load(1, 3);
        x.addCastaway(2);
        x.addCastaway(2);
        Due.is("10: strength", x.lashing(2, 1, 0), 5);
        Due.is("10: wear", x.lashing(2, 1, 1), 0);
        Due.is("10: stress is the waves and half of 11", x.lashing(2, 1, 2), 9);
        Due.is("10: the same from there", x.lashing(1, 2, 2), 9);
        Due.is("10: none", x.lashing(0, 1, 0), 0);
        Due.is("10: none, no wear", x.lashing(0, 1, 1), 0);
        Due.is("10: none, no stress", x.lashing(0, 1, 2), 0);
        Due.is("10: none to itself", x.lashing(1, 1, 2), 0);
        Due.is("10: none to a lost one", x.lashing(1, 4, 2), 0);
        x.tie(1, 2, 30);
        x.pass(3);
        Due.is("10: worn", x.lashing(1, 2, 1), 6);
        x.load(1, 30);
        Due.is("10: stress without sign", x.lashing(1, 2, 2), 12);
        Due.refusesIndex("10: a -1", BarrelsTest::six, y -> y.lashing(-1, 0, 0));
        Due.refusesIndex("10: a 6", BarrelsTest::six, y -> y.lashing(6, 0, 0));
        Due.refusesIndex("10: b -1", BarrelsTest::six, y -> y.lashing(0, -1, 0));
        Due.refusesIndex("10: b 6", BarrelsTest::six, y -> y.lashing(0, 6, 0));
        Due.refusesIndex("10: what -1", BarrelsTest::six, y -> y.lashing(1, 2, -1));
        Due.refusesIndex("10: what 3", BarrelsTest::six, y -> y.lashing(1, 2, 3));
        Due.refusesIndex("10: what 3, no lashing", BarrelsTest::six, y -> y.lashing(0, 1, 3));
    }
}
