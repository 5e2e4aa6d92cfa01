/** Promises 11 to 14: addCastaway, go, bail, castaway. */
public final class CastawaysTest {
    public static void main(String[] args) {
        addCastaway();
        go();
        bail();
        castaway();
        Due.end("CastawaysTest");
    }

    /** Castaway 0 is lost with barrel 3, 1 on barrel 0, tied to 1; barrel 2 lies beside 1, not tied. */
    private static BarrelRaft four() {
        BarrelRaft x = new BarrelRaft();
        x.addBarrel(0, 0, 40, 9);
        x.addBarrel(1, 0, 40, 0);
        x.addBarrel(2, 0, 40, 0);
        x.addBarrel(7, 7, 6, 0);
        x.tie(0, 1, 50);
        x.addCastaway(3);
        x.addCastaway(0);
        x.pass(1);
        return x;
    }

    /** As four(), a while later: all but barrel 3 are saved. */
    private static BarrelRaft ashore() {
        BarrelRaft x = four();
        x.addWater(0, 0, 30, 20, 2, 0, 0);
        x.pass(20);
        return x;
    }

    private static void addCastaway() {
        BarrelRaft x = four();
        Due.is("11: the third", x.addCastaway(1), 2);
        Due.is("11: is there", x.castaway(2, 0), 1);
        Due.is("11: is afloat", x.castaway(2, 1), 0);
        Due.is("11: load", x.barrel(1, 12), 7);
        Due.is("11: the fourth", x.addCastaway(1), 3);
        Due.is("11: load", x.barrel(1, 12), 14);
        Due.is("11: on the piece", x.piece(0, 3), 3);
        Due.is("11: all", x.count(4), 4);
        Due.is("11: afloat", x.count(5), 3);
        Due.refusesIndex("11: barrel -1", CastawaysTest::four, y -> y.addCastaway(-1));
        Due.refusesIndex("11: barrel 4", CastawaysTest::four, y -> y.addCastaway(4));
        Due.refusesState("11: a lost barrel", CastawaysTest::four, y -> y.addCastaway(3));
        Due.refusesState("11: a saved barrel", CastawaysTest::ashore, y -> y.addCastaway(0));
        Due.Scene eight = () -> {
            BarrelRaft y = four();
            for (int n = 2; n < 8; n++) {
                Due.is("11: castaway", y.addCastaway(1), n);
            }
            return y;
        };
        Due.refusesState("11: a ninth", eight, y -> y.addCastaway(0));
        Due.refusesIndex("11: a ninth on no barrel", eight, y -> y.addCastaway(4));
    }

    private static void go() {
        BarrelRaft x = four();
        x.addCastaway(1);
        Due.is("12: go(1, 1)", x.go(1, 1), 2);
        Due.is("12: is there", x.castaway(1, 0), 1);
        Due.is("12: load there", x.barrel(1, 12), 14);
        Due.is("12: load here", x.barrel(0, 12), 0);
        Due.is("12: go back", x.go(1, 0), 1);
        Due.is("12: the other comes", x.go(2, 0), 2);
        Due.is("12: load", x.barrel(0, 12), 14);
        x.tie(1, 2, 9);
        Due.is("12: go on", x.go(2, 1), 1);
        Due.is("12: go on", x.go(2, 2), 1);
        Due.is("12: load", x.barrel(2, 12), 7);
        Due.refusesIndex("12: castaway -1", CastawaysTest::four, y -> y.go(-1, 1));
        Due.refusesIndex("12: castaway 2", CastawaysTest::four, y -> y.go(2, 1));
        Due.refusesIndex("12: barrel -1", CastawaysTest::four, y -> y.go(1, -1));
        Due.refusesIndex("12: barrel 4", CastawaysTest::four, y -> y.go(1, 4));
        Due.refusesIndex("12: lost, barrel 4", CastawaysTest::four, y -> y.go(0, 4));
        Due.refusesState("12: lost", CastawaysTest::four, y -> y.go(0, 1));
        Due.refusesState("12: saved", CastawaysTest::ashore, y -> y.go(1, 1));
        Due.refusesState("12: to the same", CastawaysTest::four, y -> y.go(1, 0));
        Due.refusesState("12: two lashings off", CastawaysTest::four, y -> y.go(1, 2));
        Due.Scene onOne = () -> {
            BarrelRaft y = four();
            y.go(1, 1);
            return y;
        };
        Due.refusesState("12: side by side, not tied", onOne, y -> y.go(1, 2));
    }

    private static void bail() {
        BarrelRaft x = four();
        Due.is("13: 9 less 25", x.bail(1), 0);
        x.pass(2);
        Due.is("13: 18 less 25", x.bail(1), 0);
        x.pass(3);
        Due.is("13: 27 less 25", x.bail(1), 2);
        Due.is("13: water", x.barrel(0, 4), 2);
        x.go(1, 1);
        Due.is("13: a dry one", x.bail(1), 0);
        Due.is("13: the other stays", x.barrel(0, 4), 2);
        Due.refusesIndex("13: -1", CastawaysTest::four, y -> y.bail(-1));
        Due.refusesIndex("13: 2", CastawaysTest::four, y -> y.bail(2));
        Due.refusesState("13: lost", CastawaysTest::four, y -> y.bail(0));
        Due.refusesState("13: saved", CastawaysTest::ashore, y -> y.bail(1));
    }

    private static void castaway() {
        BarrelRaft x = four();
        Due.is("14: lost, on none", x.castaway(0, 0), -1);
        Due.is("14: lost", x.castaway(0, 1), 1);
        Due.is("14: on barrel 0", x.castaway(1, 0), 0);
        Due.is("14: afloat", x.castaway(1, 1), 0);
        BarrelRaft y = ashore();
        Due.is("14: still lost", y.castaway(0, 1), 1);
        Due.is("14: saved, on none", y.castaway(1, 0), -1);
        Due.is("14: saved", y.castaway(1, 1), 2);
        Due.refusesIndex("14: -1", CastawaysTest::four, z -> z.castaway(-1, 0));
        Due.refusesIndex("14: 2", CastawaysTest::four, z -> z.castaway(2, 0));
        Due.refusesIndex("14: what -1", CastawaysTest::four, z -> z.castaway(0, -1));
        Due.refusesIndex("14: what 2", CastawaysTest::four, z -> z.castaway(0, 2));
        Due.refusesIndex("14: none at all", BarrelRaft::new, z -> z.castaway(0, 0));
    }
}
