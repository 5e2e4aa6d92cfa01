/** Promises 15 and 16: pass, with the six steps of an hour, and count. */
public final class HoursTest {
    public static void main(String[] args) {
        leaks();
        overloaded();
        leakBeforeLoss();
        lossBeforeBreak();
        breaks();
        wavesWhereThePieceIs();
        drift();
        ridesHigh();
        partsDrift();
        staysInTheSea();
        shore();
        passRefuses();
        count();
        Due.end("HoursTest");
    }

    private static void leaks() {
        BarrelRaft x = new BarrelRaft();
        x.addBarrel(0, 0, 40, 9);
        x.addBarrel(1, 0, 33, 2);
        Due.is("15: pass(11)", x.pass(11), 0);
        Due.is("15: the hour", x.count(0), 11);
        Due.is("15: water", x.barrel(0, 4), 99);
        Due.is("15: it lifts, cut", x.barrel(0, 11), 0);
        Due.is("15: water", x.barrel(1, 4), 22);
        Due.is("15: it lifts, cut", x.barrel(1, 11), 25);
        Due.is("15: pass(1)", x.pass(1), 0);
        Due.is("15: at most 100", x.barrel(0, 4), 100);
        x.pass(100);
        Due.is("15: full ones float without a load", x.count(2), 2);
        Due.is("15: the hour", x.count(0), 112);
        x.load(0, 1);
        x.pass(1);
        Due.is("15: but not with one", x.barrel(0, 6), 1);
        Due.is("15: a lost one keeps its water", x.barrel(0, 4), 100);
    }

    private static void overloaded() {
        BarrelRaft x = new BarrelRaft();
        x.addBarrel(0, 0, 7, 0);
        x.addBarrel(1, 0, 20, 0);
        x.addBarrel(2, 0, 17, 3);
        x.tie(1, 2, 50);
        x.addCastaway(0);
        x.addCastaway(1);
        x.addCastaway(2);
        x.load(2, 21);
        Due.is("15: pass(1)", x.pass(1), 0);
        Due.is("15: as much as it lifts does not sink", x.barrel(0, 6), 0);
        Due.is("15: 20 and 16 lift 35", x.barrel(1, 6), 0);
        Due.is("15: water", x.barrel(2, 4), 3);
        Due.is("15: pass(1)", x.pass(1), 0);
        Due.is("15: 20 and 15 lift 35", x.count(2), 3);
        x.pass(2);
        Due.is("15: 20 and 14 do not", x.count(2), 1);
        Due.is("15: lost", x.barrel(1, 6), 1);
        Due.is("15: lost", x.barrel(2, 6), 1);
        Due.is("15: its goods are 0", x.barrel(2, 5), 0);
        Due.is("15: its load is 0", x.barrel(2, 12), 0);
        Due.is("15: its lashing is gone", x.count(7), 0);
        Due.is("15: but did not break", x.count(10), 0);
        Due.is("15: and gives no rope", x.count(9), 9);
        Due.is("15: castaway 0 is afloat", x.castaway(0, 1), 0);
        Due.is("15: castaway 1 is lost", x.castaway(1, 1), 1);
        Due.is("15: castaway 2 is lost", x.castaway(2, 1), 1);
        x.pass(5);
        Due.is("15: a lost one takes in no water", x.barrel(2, 4), 12);
    }

    private static void leakBeforeLoss() {
        BarrelRaft x = new BarrelRaft();
        x.addBarrel(0, 0, 7, 1);
        x.addCastaway(0);
        Due.is("15: floats till the hour", x.count(2), 1);
        x.pass(1);
        Due.is("15: water comes first", x.count(2), 0);
        Due.is("15: lost where it was", x.barrel(0, 9), 10);
    }

    private static void lossBeforeBreak() {
        BarrelRaft x = new BarrelRaft();
        x.addWater(0, 0, 30, 20, 1, 1, 20);
        x.addBarrel(0, 0, 5, 0);
        x.addBarrel(1, 0, 40, 0);
        x.addBarrel(1, 1, 1, 0);
        x.tie(0, 1, 1);
        x.tie(1, 2, 1);
        x.load(1, 30);
        x.load(0, 17);
        Due.is("15: a lost piece breaks no lashing", x.pass(1), 0);
        Due.is("15: it is lost together", x.count(2), 0);
        Due.is("15: and does not go", x.barrel(1, 8), 0);
        Due.is("15: none broke", x.count(10), 0);
    }

    private static void breaks() {
        BarrelRaft x = new BarrelRaft();
        x.addWater(0, 0, 30, 20, 0, 0, 6);
        for (int n = 0; n < 5; n++) {
            x.addBarrel(n, 0, 40, 0);
        }
        x.load(1, 7);
        x.tie(0, 1, 9);
        x.tie(1, 2, 8);
        x.tie(2, 3, 6);
        x.tie(3, 4, 5);
        Due.is("15: two break", x.pass(1), 2);
        Due.is("15: stress 9 of 9 does not", x.lashing(0, 1, 0), 9);
        Due.is("15: its wear is 9 / 4", x.lashing(0, 1, 1), 2);
        Due.is("15: stress 9 of 8 does", x.lashing(1, 2, 0), 0);
        Due.is("15: stress 6 of 6 does not", x.lashing(2, 3, 0), 6);
        Due.is("15: its wear is 6 / 4", x.lashing(2, 3, 1), 1);
        Due.is("15: stress 6 of 5 does", x.lashing(3, 4, 0), 0);
        Due.is("15: pieces", x.count(8), 3);
        Due.is("15: 2 is a name now", x.barrel(3, 7), 2);
        Due.is("15: the worn ones break then", x.pass(1), 2);
        Due.is("15: none is left to break", x.pass(10), 0);
        Due.is("15: all that broke", x.count(10), 4);
        Due.is("15: broken ones give no rope", x.count(9), 6);
        Due.is("15: pieces", x.count(8), 5);
        x.tie(0, 1, 50);
        Due.is("15: 9 of 50, then 48, 46 ..", x.pass(20), 0);
        Due.is("15: wear", x.lashing(0, 1, 1), 40);
        Due.is("15: the last one", x.pass(100), 1);
        Due.is("15: the hour", x.count(0), 132);
    }

    private static void wavesWhereThePieceIs() {
        BarrelRaft x = new BarrelRaft();
        x.addWater(0, 0, 2, 20, 2, 0, 4);
        x.addWater(2, 0, 2, 20, 2, 0, 8);
        x.addWater(4, 0, 2, 20, 0, 0, 12);
        x.addBarrel(0, 0, 9, 0);
        x.addBarrel(0, 1, 9, 0);
        x.tie(0, 1, 50);
        Due.is("15: stress here", x.lashing(0, 1, 2), 4);
        x.pass(1);
        Due.is("15: it was worn before it went", x.lashing(0, 1, 1), 1);
        Due.is("15: stress there", x.lashing(0, 1, 2), 8);
        x.pass(1);
        Due.is("15: worn there", x.lashing(0, 1, 1), 3);
        x.pass(2);
        Due.is("15: worn beyond", x.lashing(0, 1, 1), 9);
        Due.is("15: x", x.barrel(1, 8), 4);
    }

    private static void drift() {
        BarrelRaft x = new BarrelRaft();
        x.addWater(0, 0, 5, 20, 2, -1, 0);
        x.addWater(5, 0, 25, 20, 0, 1, 0);
        x.addBarrel(0, 0, 9, 0);
        x.pass(1);
        Due.is("15: x", x.barrel(0, 8), 2);
        Due.is("15: y", x.barrel(0, 9), 9);
        x.pass(3);
        Due.is("15: x where the other water is", x.barrel(0, 8), 6);
        Due.is("15: y there", x.barrel(0, 9), 8);
        x.addWater(6, 8, 1, 1, -2, -2, 0);
        x.pass(1);
        Due.is("15: the newest water counts", x.barrel(0, 8), 4);
        Due.is("15: y there", x.barrel(0, 9), 6);
    }

    private static void ridesHigh() {
        BarrelRaft x = new BarrelRaft();
        x.addWater(0, 0, 30, 20, 1, 0, 0);
        x.setWind(1, -1);
        x.addBarrel(0, 0, 20, 0);
        x.addBarrel(2, 0, 20, 0);
        x.addBarrel(4, 0, 10, 0);
        x.addBarrel(5, 0, 10, 0);
        x.tie(2, 3, 50);
        x.load(0, 10);
        x.load(1, 9);
        x.load(3, 9);
        x.pass(1);
        Due.is("15: half of its lift does not ride high", x.barrel(0, 8), 1);
        Due.is("15: its y", x.barrel(0, 9), 10);
        Due.is("15: less than half does", x.barrel(1, 8), 2);
        Due.is("15: its y", x.barrel(1, 9), 9);
        Due.is("15: a piece rides together", x.barrel(3, 8), 2);
        Due.is("15: its y", x.barrel(3, 9), 9);
        x.load(3, 10);
        x.pass(1);
        Due.is("15: then it does not", x.barrel(2, 8), 3);
        Due.is("15: its y", x.barrel(2, 9), 9);
    }

    private static void partsDrift() {
        BarrelRaft x = new BarrelRaft();
        x.addWater(0, 0, 1, 20, 1, 0, 20);
        x.setWind(1, 1);
        x.addBarrel(0, 0, 10, 0);
        x.addBarrel(1, 0, 10, 0);
        x.addBarrel(1, 1, 10, 0);
        x.tie(0, 1, 5);
        x.tie(1, 2, 50);
        x.load(0, 10);
        Due.is("15: it breaks", x.pass(1), 1);
        Due.is("15: the loaded part goes by the current", x.barrel(0, 8), 1);
        Due.is("15: its y", x.barrel(0, 9), 10);
        Due.is("15: the other one by the wind, too", x.barrel(1, 8), 2);
        Due.is("15: its y", x.barrel(1, 9), 11);
        Due.is("15: whole", x.barrel(2, 8), 2);
        Due.is("15: its piece", x.barrel(2, 7), 1);
        Due.is("15: pieces", x.count(8), 2);
    }

    private static void staysInTheSea() {
        BarrelRaft x = new BarrelRaft();
        x.addWater(0, 0, 30, 20, -2, -2, 0);
        x.addBarrel(0, 0, 10, 0);
        x.setWind(2, 0);
        x.pass(1);
        Due.is("15: both together, not one by one", x.barrel(0, 8), 0);
        Due.is("15: y", x.barrel(0, 9), 8);
        x.setWind(-1, -1);
        x.pass(2);
        Due.is("15: x stays 0", x.barrel(0, 8), 0);
        Due.is("15: y", x.barrel(0, 9), 2);
        x.pass(1);
        Due.is("15: y stays 0", x.barrel(0, 9), 0);
        x.addWater(0, 0, 30, 20, 0, 2, 0);
        x.setWind(0, 2);
        x.pass(4);
        Due.is("15: y", x.barrel(0, 9), 16);
        x.pass(1);
        Due.is("15: y stays 19", x.barrel(0, 9), 19);
        x.addWater(0, 0, 30, 20, 2, 0, 0);
        x.setWind(2, 0);
        x.pass(7);
        Due.is("15: x", x.barrel(0, 8), 28);
        Due.is("15: afloat", x.barrel(0, 6), 0);
        x.pass(1);
        Due.is("15: x stays 29", x.barrel(0, 8), 29);
    }

    private static void shore() {
        BarrelRaft x = new BarrelRaft();
        x.addWater(0, 0, 28, 20, 2, 0, 1);
        x.addWater(28, 0, 2, 20, 1, 0, 20);
        x.addBarrel(0, 0, 40, 1);
        x.addBarrel(0, 1, 40, 0);
        x.addBarrel(5, 5, 40, 0);
        x.tie(0, 1, 50);
        x.load(0, 5);
        x.load(2, 11);
        x.addCastaway(1);
        Due.is("15: pass(14)", x.pass(14), 0);
        Due.is("15: x", x.barrel(1, 8), 28);
        Due.is("15: afloat", x.count(2), 3);
        Due.is("15: pass(1)", x.pass(1), 0);
        Due.is("15: saved", x.count(3), 3);
        Due.is("15: none afloat", x.count(2), 0);
        Due.is("15: the castaway is saved", x.castaway(0, 1), 2);
        Due.is("15: no lashing", x.count(7), 0);
        Due.is("15: none broke", x.count(10), 0);
        Due.is("15: saved goods", x.count(11), 16);
        Due.is("15: the goods stay", x.barrel(2, 5), 11);
        Due.is("15: water", x.barrel(0, 4), 15);
        x.pass(9);
        Due.is("15: no more water", x.barrel(0, 4), 15);
        Due.is("15: the hour", x.count(0), 24);
        BarrelRaft y = new BarrelRaft();
        y.addWater(0, 0, 30, 20, 2, 0, 20);
        y.addBarrel(0, 0, 9, 0);
        y.addBarrel(1, 0, 9, 0);
        y.pass(14);
        y.tie(0, 1, 3);
        Due.is("15: it breaks in the hour in which it comes ashore", y.pass(1), 1);
        Due.is("15: both parts are saved", y.count(3), 2);
    }

    private static BarrelRaft some() {
        BarrelRaft x = new BarrelRaft();
        x.addWater(0, 0, 30, 20, 1, 0, 7);
        x.addBarrel(0, 0, 20, 1);
        x.addBarrel(1, 0, 20, 0);
        x.tie(0, 1, 20);
        x.addCastaway(0);
        return x;
    }

    private static void passRefuses() {
        Due.refusesArgument("15: 0", HoursTest::some, x -> x.pass(0));
        Due.refusesArgument("15: -1", HoursTest::some, x -> x.pass(-1));
        Due.refusesArgument("15: 101", HoursTest::some, x -> x.pass(101));
        Due.refusesArgument("15: greatest", HoursTest::some, x -> x.pass(Integer.MAX_VALUE));
    }

    private static void counts(String when, BarrelRaft x, int... due) {
        for (int what = 0; what < due.length; what++) {
            Due.is("16: count(" + what + ") " + when, x.count(what), due[what]);
        }
    }

    private static void count() {
        BarrelRaft x = new BarrelRaft();
        x.addBarrel(0, 0, 40, 0);
        x.addBarrel(1, 0, 40, 0);
        x.addBarrel(2, 0, 40, 0);
        x.addBarrel(3, 0, 1, 0);
        x.addBarrel(7, 7, 30, 0);
        x.tie(0, 1, 50);
        x.tie(1, 2, 2);
        x.addCastaway(0);
        x.addCastaway(3);
        x.addCastaway(4);
        x.load(4, 9);
        x.load(0, 4);
        counts("at first", x, 0, 5, 5, 0, 3, 3, 0, 2, 3, 8, 0, 0);
        x.addWater(0, 0, 30, 20, 0, 0, 3);
        x.pass(1);
        counts("then", x, 1, 5, 4, 0, 3, 2, 0, 1, 3, 8, 1, 0);
        x.setWind(2, 0);
        x.pass(15);
        counts("at the end", x, 16, 5, 1, 3, 3, 1, 1, 0, 1, 8, 1, 4);
        Due.refusesIndex("16: -1", HoursTest::some, y -> y.count(-1));
        Due.refusesIndex("16: 12", HoursTest::some, y -> y.count(12));
    }
}
