/** Promises 1 to 4: a new object, addWater, sea, setWind. */
public final class SeaTest {
    public static void main(String[] args) {
        newObject();
        addWater();
        addWaterRefuses();
        sea();
        seaRefuses();
        setWind();
        Due.end("SeaTest");
    }

    private static void newObject() {
        BarrelRaft x = new BarrelRaft();
        long d = 571;
        for (int what = 0; what < 12; what++) {
            Due.is("1: count(" + what + ")", x.count(what), what == 9 ? 10 : 0);
            d = d * 31 + (what == 9 ? 10 : 0);
        }
        Due.is("1: digest()", x.digest(), d);
        Due.isDouble("1: spare()", x.spare(), 0.0);
        Due.is("1: no water at 0, 0", x.sea(0, 0, 3), -1);
        Due.is("1: no water at 29, 19", x.sea(29, 19, 3), -1);
        Due.is("1: no barrel at 0, 10", x.sea(0, 10, 4), 0);
        Due.is("1: addBarrel(3, 4, 5, 6)", x.addBarrel(3, 4, 5, 6), 0);
        Due.is("1: x", x.barrel(0, 8), 0);
        Due.is("1: y", x.barrel(0, 9), 10);
        Due.is("1: still no wind", x.setWind(0, 0), 12);
    }

    private static void addWater() {
        BarrelRaft x = new BarrelRaft();
        Due.is("2: all the sea", x.addWater(0, 0, 30, 20, -2, 2, 20), 0);
        Due.is("2: the last corner", x.addWater(29, 19, 1, 1, 2, -2, 0), 1);
        Due.is("2: the first corner", x.addWater(0, 0, 1, 1, 1, 1, 1), 2);
        Due.is("2: a column", x.addWater(5, 0, 1, 20, 0, 0, 7), 3);
        Due.is("2: a row", x.addWater(0, 6, 30, 1, 0, 1, 8), 4);
        for (int n = 5; n < 8; n++) {
            Due.is("2: water " + n, x.addWater(n, n, 2, 2, 0, 0, n), n);
        }
        Due.is("2: dx", x.sea(29, 18, 0), -2);
        Due.is("2: dy", x.sea(29, 18, 1), 2);
        Due.is("2: the waves", x.sea(29, 18, 2), 20);
        Due.is("2: dx in the corner", x.sea(29, 19, 0), 2);
        Due.is("2: dy in the corner", x.sea(29, 19, 1), -2);
        Due.is("2: no waves in the corner", x.sea(29, 19, 2), 0);
    }

    private static void addWaterRefuses() {
        Due.Scene one = () -> {
            BarrelRaft x = new BarrelRaft();
            x.addWater(3, 3, 9, 9, 1, 1, 3);
            return x;
        };
        Due.refusesArgument("2: x -1", one, x -> x.addWater(-1, 0, 1, 1, 0, 0, 0));
        Due.refusesArgument("2: x 30", one, x -> x.addWater(30, 0, 1, 1, 0, 0, 0));
        Due.refusesArgument("2: y -1", one, x -> x.addWater(0, -1, 1, 1, 0, 0, 0));
        Due.refusesArgument("2: y 20", one, x -> x.addWater(0, 20, 1, 1, 0, 0, 0));
        Due.refusesArgument("2: wide 0", one, x -> x.addWater(0, 0, 0, 1, 0, 0, 0));
        Due.refusesArgument("2: deep 0", one, x -> x.addWater(0, 0, 1, 0, 0, 0, 0));
        Due.refusesArgument("2: wide least", one, x -> x.addWater(0, 0, Integer.MIN_VALUE, 1, 0, 0, 0));
        Due.refusesArgument("2: over the shore", one, x -> x.addWater(1, 0, 30, 1, 0, 0, 0));
        Due.refusesArgument("2: over the last row", one, x -> x.addWater(0, 1, 1, 20, 0, 0, 0));
        Due.refusesArgument("2: greatest wide", one, x -> x.addWater(29, 0, Integer.MAX_VALUE, 1, 0, 0, 0));
        Due.refusesArgument("2: greatest deep", one, x -> x.addWater(0, 19, 1, Integer.MAX_VALUE, 0, 0, 0));
        Due.refusesArgument("2: dx 3", one, x -> x.addWater(0, 0, 1, 1, 3, 0, 0));
        Due.refusesArgument("2: dx -3", one, x -> x.addWater(0, 0, 1, 1, -3, 0, 0));
        Due.refusesArgument("2: dy 3", one, x -> x.addWater(0, 0, 1, 1, 0, 3, 0));
        Due.refusesArgument("2: dy -3", one, x -> x.addWater(0, 0, 1, 1, 0, -3, 0));
        Due.refusesArgument("2: wave -1", one, x -> x.addWater(0, 0, 1, 1, 0, 0, -1));
        Due.refusesArgument("2: wave 21", one, x -> x.addWater(0, 0, 1, 1, 0, 0, 21));
        Due.Scene eight = () -> {
            BarrelRaft x = new BarrelRaft();
            for (int n = 0; n < 8; n++) {
                x.addWater(n, n, 5, 5, 1, 0, n);
            }
            return x;
        };
        Due.refusesState("2: a ninth", eight, x -> x.addWater(0, 0, 30, 20, 0, 0, 0));
        Due.refusesArgument("2: a wrong ninth", eight, x -> x.addWater(0, 0, 30, 20, 0, 0, 21));
    }

    private static void sea() {
        BarrelRaft x = new BarrelRaft();
        x.addWater(4, 5, 3, 2, 1, -1, 9);
        x.addWater(5, 6, 4, 4, -2, 2, 4);
        for (int row = 4; row < 11; row++) {
            for (int column = 3; column < 10; column++) {
                boolean first = column >= 4 && column <= 6 && row >= 5 && row <= 6;
                boolean second = column >= 5 && column <= 8 && row >= 6 && row <= 9;
                String place = "3: sea(" + column + ", " + row + ", ";
                Due.is(place + "0)", x.sea(column, row, 0), second ? -2 : first ? 1 : 0);
                Due.is(place + "1)", x.sea(column, row, 1), second ? 2 : first ? -1 : 0);
                Due.is(place + "2)", x.sea(column, row, 2), second ? 4 : first ? 9 : 0);
                Due.is(place + "3)", x.sea(column, row, 3), second ? 1 : first ? 0 : -1);
            }
        }
        afloat();
    }

    private static void afloat() {
        BarrelRaft x = new BarrelRaft();
        x.addBarrel(0, 0, 6, 0);
        x.addBarrel(1, 0, 40, 0);
        x.addBarrel(5, 5, 40, 0);
        x.addCastaway(0);
        Due.is("3: three float there", x.sea(0, 10, 4), 3);
        Due.is("3: none there", x.sea(0, 9, 4), 0);
        Due.is("3: none there", x.sea(1, 10, 4), 0);
        x.pass(1);
        Due.is("3: the lost one does not count", x.sea(0, 10, 4), 2);
        x.addWater(0, 0, 30, 20, 2, 1, 0);
        x.pass(3);
        Due.is("3: they went", x.sea(6, 13, 4), 2);
        Due.is("3: they went away", x.sea(0, 10, 4), 0);
        x.pass(20);
        Due.is("3: the saved ones do not count", x.sea(29, 19, 4), 0);
    }

    private static void seaRefuses() {
        Due.Scene scene = BarrelRaft::new;
        Due.refusesIndex("3: x -1", scene, x -> x.sea(-1, 0, 0));
        Due.refusesIndex("3: x 30", scene, x -> x.sea(30, 0, 0));
        Due.refusesIndex("3: y -1", scene, x -> x.sea(0, -1, 0));
        Due.refusesIndex("3: y 20", scene, x -> x.sea(0, 20, 0));
        Due.refusesIndex("3: what -1", scene, x -> x.sea(0, 0, -1));
        Due.refusesIndex("3: what 5", scene, x -> x.sea(0, 0, 5));
        Due.refusesIndex("3: greatest", scene, x -> x.sea(Integer.MAX_VALUE, Integer.MIN_VALUE, 0));
    }

    private static void setWind() {
        BarrelRaft x = new BarrelRaft();
        Due.is("4: no wind first", x.setWind(-2, -2), 12);
        Due.is("4: -2, -2", x.setWind(2, 2), 0);
        Due.is("4: 2, 2", x.setWind(1, -2), 24);
        Due.is("4: 1, -2", x.setWind(-1, 2), 15);
        Due.is("4: -1, 2", x.setWind(2, -1), 9);
        x.addBarrel(0, 0, 10, 0);
        x.pass(3);
        Due.is("4: it blows by columns", x.barrel(0, 8), 6);
        Due.is("4: and by rows", x.barrel(0, 9), 7);
        Due.Scene windy = () -> {
            BarrelRaft y = new BarrelRaft();
            y.setWind(1, -1);
            y.addBarrel(0, 0, 10, 0);
            return y;
        };
        Due.refusesArgument("4: dx 3", windy, y -> y.setWind(3, 0));
        Due.refusesArgument("4: dx -3", windy, y -> y.setWind(-3, 0));
        Due.refusesArgument("4: dy 3", windy, y -> y.setWind(0, 3));
        Due.refusesArgument("4: dy -3", windy, y -> y.setWind(0, -3));
    }
}
