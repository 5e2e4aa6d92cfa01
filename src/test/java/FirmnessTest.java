/** Promises 17 to 23: firm, hold, piece, foresee, advise, spare, digest. */
public final class FirmnessTest {
    public static void main(String[] args) {
        firm();
        hold();
        piece();
        foresee();
        advise();
        adviseFirst();
        adviseFree();
        spare();
        digest();
        Due.end("FirmnessTest");
    }

    /**
     * <pre>
     * 0 -9- 1 -8- 2     6      8 is lost
     * |     |     |
     * 7     6     5
     * |     |     |
     * 3 -4- 4 -3- 5 -2- 7
     * </pre>
     */
    private static BarrelRaft nine() {
        BarrelRaft x = new BarrelRaft();
        int[] places = {0, 1, 2, 8, 9, 10, 4, 11, 63};
        for (int place : places) {
            x.addBarrel(place % 8, place / 8, place == 63 ? 3 : 20, 0);
        }
        x.load(8, 30);
        x.pass(1);
        x.tie(0, 1, 9);
        x.tie(1, 2, 8);
        x.tie(0, 3, 7);
        x.tie(1, 4, 6);
        x.tie(2, 5, 5);
        x.tie(3, 4, 4);
        x.tie(4, 5, 3);
        x.tie(5, 7, 2);
        return x;
    }

    private static void firm() {
        BarrelRaft x = nine();
        Due.is("17: firm(1, 4)", x.firm(1, 4), 3);
        Due.is("17: firm(4, 1)", x.firm(4, 1), 3);
        Due.is("17: firm(0, 5)", x.firm(0, 5), 2);
        Due.is("17: firm(3, 2)", x.firm(3, 2), 2);
        Due.is("17: firm(0, 7)", x.firm(0, 7), 1);
        Due.is("17: firm(0, 6)", x.firm(0, 6), 0);
        Due.is("17: firm(0, 8)", x.firm(0, 8), 0);
        Due.is("17: firm(8, 0)", x.firm(8, 0), 0);
        Due.is("17: the same", x.firm(2, 2), -1);
        Due.is("17: the same lost one", x.firm(8, 8), -1);
        x.cut(1, 4);
        Due.is("17: a ring", x.firm(1, 4), 2);
        x.cut(0, 3);
        Due.is("17: a chain", x.firm(1, 4), 1);
        crosswise();
        Due.refusesIndex("17: a -1", FirmnessTest::nine, y -> y.firm(-1, 0));
        Due.refusesIndex("17: a 9", FirmnessTest::nine, y -> y.firm(9, 0));
        Due.refusesIndex("17: b -1", FirmnessTest::nine, y -> y.firm(0, -1));
        Due.refusesIndex("17: b 9", FirmnessTest::nine, y -> y.firm(0, 9));
        Due.refusesIndex("17: both 9", FirmnessTest::nine, y -> y.firm(9, 9));
    }

    /**
     * The first way that is found from 5 to 1 goes 5, 0, 3, 1, and must give back 0, 3 for two ways.
     * <pre>
     * 4 - 0 - 5
     * |   |   |
     * 1 - 3 - 2
     * |       |
     * 6       7
     * </pre>
     */
    private static void crosswise() {
        BarrelRaft x = new BarrelRaft();
        int[] places = {1, 8, 10, 9, 0, 2, 16, 18};
        for (int place : places) {
            x.addBarrel(place % 8, place / 8, 20, 0);
        }
        x.tie(0, 3, 5);
        x.tie(0, 4, 5);
        x.tie(0, 5, 5);
        x.tie(1, 3, 5);
        x.tie(1, 4, 5);
        x.tie(2, 3, 5);
        x.tie(2, 5, 5);
        Due.is("17: firm(5, 1)", x.firm(5, 1), 2);
        Due.is("17: firm(1, 5)", x.firm(1, 5), 2);
        Due.is("17: firm(4, 2)", x.firm(4, 2), 2);
        Due.is("17: firm(0, 3)", x.firm(0, 3), 3);
        x.tie(1, 6, 5);
        x.tie(7, 2, 5);
        Due.is("17: firm(6, 7)", x.firm(6, 7), 1);
        Due.is("17: firm(1, 2)", x.firm(1, 2), 2);
    }

    private static void hold() {
        BarrelRaft x = nine();
        Due.is("18: hold(0, 1)", x.hold(0, 1), 9);
        Due.is("18: hold(0, 2)", x.hold(0, 2), 8);
        Due.is("18: hold(3, 4) goes around", x.hold(3, 4), 6);
        Due.is("18: hold(4, 3)", x.hold(4, 3), 6);
        Due.is("18: hold(4, 5) goes around", x.hold(4, 5), 5);
        Due.is("18: hold(7, 0)", x.hold(7, 0), 2);
        Due.is("18: hold(0, 6)", x.hold(0, 6), 0);
        Due.is("18: hold(0, 8)", x.hold(0, 8), 0);
        Due.is("18: hold(8, 0)", x.hold(8, 0), 0);
        Due.is("18: the same", x.hold(1, 1), 0);
        Due.is("18: the same lost one", x.hold(8, 8), 0);
        BarrelRaft y = new BarrelRaft();
        y.addWater(0, 0, 30, 20, 0, 0, 9);
        y.addBarrel(0, 0, 9, 0);
        y.addBarrel(1, 0, 9, 0);
        y.tie(0, 1, 50);
        Due.is("18: the strongest", y.hold(0, 1), 50);
        y.pass(3);
        Due.is("18: less the wear", y.hold(0, 1), 44);
        Due.refusesIndex("18: a -1", FirmnessTest::nine, z -> z.hold(-1, 0));
        Due.refusesIndex("18: a 9", FirmnessTest::nine, z -> z.hold(9, 0));
        Due.refusesIndex("18: b -1", FirmnessTest::nine, z -> z.hold(0, -1));
        Due.refusesIndex("18: b 9", FirmnessTest::nine, z -> z.hold(0, 9));
        Due.refusesIndex("18: both -1", FirmnessTest::nine, z -> z.hold(-1, -1));
    }

    private static void facts(String when, BarrelRaft x, int barrel, int... due) {
        for (int what = 0; what < due.length; what++) {
            Due.is("19: piece(" + barrel + ", " + what + ") " + when, x.piece(barrel, what), due[what]);
        }
    }

    private static void piece() {
        BarrelRaft x = nine();
        x.addCastaway(4);
        x.addCastaway(7);
        x.addCastaway(6);
        x.load(0, 5);
        x.load(6, 3);
        facts("at first", x, 0, 7, 140, 19, 2, 1);
        facts("by its last one", x, 7, 7, 140, 19, 2, 1);
        facts("alone", x, 6, 1, 20, 10, 1, 0);
        facts("lost", x, 8, 0, 0, 0, 0, 0);
        x.cut(1, 4);
        x.cut(4, 5);
        facts("as a chain", x, 5, 7, 140, 19, 2, 6);
        x.cut(1, 2);
        facts("one half", x, 4, 4, 80, 12, 1, 3);
        facts("the other half", x, 5, 3, 60, 7, 1, 2);
        Due.refusesIndex("19: barrel -1", FirmnessTest::nine, y -> y.piece(-1, 0));
        Due.refusesIndex("19: barrel 9", FirmnessTest::nine, y -> y.piece(9, 0));
        Due.refusesIndex("19: what -1", FirmnessTest::nine, y -> y.piece(0, -1));
        Due.refusesIndex("19: what 5", FirmnessTest::nine, y -> y.piece(0, 5));
        Due.refusesIndex("19: lost, what 5", FirmnessTest::nine, y -> y.piece(8, 5));
    }

    /** Barrel 0 with a castaway is held up by 1; the lashing breaks in hour 3; 2 sinks in hour 6. */
    private static BarrelRaft coming() {
        BarrelRaft x = new BarrelRaft();
        x.addWater(0, 0, 30, 20, 2, 0, 8);
        x.addBarrel(0, 0, 6, 0);
        x.addBarrel(1, 0, 30, 0);
        x.addBarrel(5, 5, 10, 8);
        x.addBarrel(6, 6, 40, 0);
        x.tie(0, 1, 14);
        x.addCastaway(0);
        x.addCastaway(3);
        x.load(2, 6);
        return x;
    }

    private static void foresee() {
        BarrelRaft x = coming();
        int[][] due = {
            {1, 4, 0, 3, 1}, {2, 4, 0, 3, 1}, {3, 4, 0, 4, 0}, {4, 3, 0, 3, 0}, {5, 3, 0, 3, 0},
            {6, 2, 0, 2, 0}, {14, 2, 0, 2, 0}, {15, 0, 1, 0, 0}, {100, 0, 1, 0, 0}};
        long before = x.digest();
        for (int[] row : due) {
            for (int what = 0; what < 4; what++) {
                Due.is("20: foresee(" + row[0] + ", " + what + ")", x.foresee(row[0], what), row[what + 1]);
            }
        }
        Due.is("20: nothing is changed", x.digest(), before);
        x.pass(30);
        Due.is("20: one who is saved already counts", x.foresee(1, 1), 1);
        Due.refusesArgument("20: 0", FirmnessTest::coming, y -> y.foresee(0, 0));
        Due.refusesArgument("20: -1", FirmnessTest::coming, y -> y.foresee(-1, 0));
        Due.refusesArgument("20: 101", FirmnessTest::coming, y -> y.foresee(101, 0));
        Due.refusesArgument("20: 101, what 4", FirmnessTest::coming, y -> y.foresee(101, 4));
        Due.refusesIndex("20: what -1", FirmnessTest::coming, y -> y.foresee(1, -1));
        Due.refusesIndex("20: what 4", FirmnessTest::coming, y -> y.foresee(100, 4));
    }

    private static void advise() {
        BarrelRaft x = coming();
        long before = x.digest();
        Due.is("21: as the lashing holds then, castaway 0 is saved", x.advise(50), 1);
        Due.is("21: not in 14 hours", x.advise(14), -1);
        Due.is("21: in 15", x.advise(15), 1);
        Due.is("21: nothing is changed", x.digest(), before);
        for (int n = 8; n >= 0; n--) {
            x.tie(0, 1, 14);
        }
        Due.is("21: ropes do not matter", x.count(9), 0);
        Due.is("21: still", x.advise(50), 1);
        Due.is("21: without a lashing", nothingToDo().advise(50), -1);
        Due.is("21: with nothing at all", new BarrelRaft().advise(1), -1);
        Due.refusesArgument("21: 0", FirmnessTest::coming, y -> y.advise(0));
        Due.refusesArgument("21: -1", FirmnessTest::coming, y -> y.advise(-1));
        Due.refusesArgument("21: 51", FirmnessTest::coming, y -> y.advise(51));
    }

    private static BarrelRaft nothingToDo() {
        BarrelRaft x = coming();
        x.cut(0, 1);
        return x;
    }

    /** Three pairs, each with a barrel that sinks when its lashing breaks on the way. */
    private static void adviseFirst() {
        BarrelRaft x = new BarrelRaft();
        x.addWater(0, 0, 30, 20, 2, 0, 4);
        for (int n = 0; n < 3; n++) {
            x.addBarrel(1, 2 * n, 30, 0);
            x.addBarrel(0, 2 * n, 6, 0);
        }
        x.tie(5, 4, 12);
        x.tie(3, 2, 8);
        x.tie(1, 0, 8);
        x.addCastaway(1);
        x.addCastaway(3);
        Due.is("21: of several the first one", x.advise(50), 1);
        x.addCastaway(5);
        Due.is("21: still the first one", x.advise(50), 1);
        x.addCastaway(5);
        Due.is("21: the one that saves two", x.advise(50), 24 * 4 + 5);
        x.cut(4, 5);
        x.cut(0, 1);
        Due.is("21: the second pair", x.advise(50), 24 * 2 + 3);
    }

    /** A lashing that would best be gone is not made anew. */
    private static void adviseFree() {
        BarrelRaft x = new BarrelRaft();
        x.addWater(0, 0, 30, 20, 2, 0, 8);
        x.addBarrel(0, 0, 30, 0);
        x.addBarrel(1, 0, 10, 9);
        x.tie(0, 1, 14);
        x.addCastaway(0);
        x.load(1, 25);
        Due.is("21: it is saved as it is", x.foresee(50, 1), 1);
        Due.is("21: then none", x.advise(50), -1);
    }

    private static void spare() {
        BarrelRaft x = new BarrelRaft();
        x.addBarrel(0, 0, 10, 0);
        Due.isDouble("22: 10 / 1", x.spare(), 10.0);
        x.addBarrel(1, 0, 7, 1);
        x.load(0, 4);
        Due.isDouble("22: 13 / 2", x.spare(), 6.5);
        x.addBarrel(2, 0, 3, 0);
        Due.isDouble("22: 16 / 3", x.spare(), 16.0 / 3.0);
        x.load(2, 30);
        Due.isDouble("22: -14 / 3", x.spare(), -14.0 / 3.0);
        x.addCastaway(1);
        Due.isDouble("22: -21 / 3", x.spare(), -7.0);
        x.pass(1);
        Due.isDouble("22: the lost ones do not count", x.spare(), 6.0);
        x.setWind(2, 0);
        x.pass(20);
        Due.isDouble("22: none floats", x.spare(), 0.0);
    }

    private static long digestOf(BarrelRaft x, int[][] lashings) {
        long d = 571;
        for (int what = 0; what < 12; what++) {
            d = d * 31 + x.count(what);
        }
        for (int b = 0; b < x.count(1); b++) {
            for (int what = 0; what < 13; what++) {
                d = d * 31 + x.barrel(b, what);
            }
        }
        for (int[] ends : lashings) {
            d = d * 31 + ends[0];
            d = d * 31 + ends[1];
            d = d * 31 + x.lashing(ends[0], ends[1], 0);
            d = d * 31 + x.lashing(ends[0], ends[1], 1);
        }
        for (int c = 0; c < x.count(4); c++) {
            d = (d * 31 + x.castaway(c, 0)) * 31 + x.castaway(c, 1);
        }
        return d;
    }

    private static void digest() {
        Due.is("23: a new object", new BarrelRaft().digest(), digestOf(new BarrelRaft(), new int[0][]));
        BarrelRaft x = nine();
        x.addCastaway(3);
        x.addCastaway(6);
        int[][] all = {{0, 1}, {0, 3}, {1, 2}, {1, 4}, {2, 5}, {3, 4}, {4, 5}, {5, 7}};
        Due.is("23: lashings in the order of step 3", x.digest(), digestOf(x, all));
        x.addWater(0, 0, 30, 20, 1, 0, 4);
        x.pass(1);
        int[][] left = {{0, 1}, {0, 3}, {1, 2}, {1, 4}, {2, 5}};
        Due.is("23: after breaks", x.digest(), digestOf(x, left));
        x.pass(30);
        Due.is("23: ashore", x.digest(), digestOf(x, new int[0][]));
    }
}
