/** Fixed runs of calls, each answered by the program and by the slow model, compared call by call. */
public final class SlowRaftTest {
    private interface Answer {
        Object of();
    }

    /** The document promises nothing of later calls. */
    private static final int CALLS = 512;

    private final BarrelRaft fast = new BarrelRaft();
    private final SlowRaft slow = new SlowRaft();
    private final int run;
    /** How far the run's numbers stray outside what is allowed: one of so many. */
    private final int stray;
    private long seed;
    private int asked;

    private SlowRaftTest(int run) {
        this.run = run;
        this.stray = run % 4 == 0 ? 6 : 60;
        this.seed = 0x5DEECE66DL * (run + 1);
    }

    public static void main(String[] args) {
        int runs = args.length > 0 ? Integer.parseInt(args[0]) : 400;
        for (int run = 0; run < runs; run++) {
            new SlowRaftTest(run).go();
        }
        System.out.println("SlowRaftTest: " + runs + " runs of some " + CALLS + " calls are as due");
    }

    private int next(int bound) {
        seed = seed * 6364136223846793005L + 1442695040888963407L;
        return (int) ((seed >>> 33) % bound);
    }

    private static int told(String answer) {
        return Integer.parseInt(answer);
    }

    /** Mostly low to high; seldom just outside, or far away. */
    private int number(int low, int high) {
        if (next(stray) == 0) {
            int[] odd = {low - 1, high + 1, Integer.MIN_VALUE, Integer.MAX_VALUE};
            return odd[next(4)];
        }
        return low + next(high - low + 1);
    }

    private int barrel() {
        return number(0, Math.max(0, told(slow.count(1)) - 1));
    }

    private int castaway() {
        return number(0, Math.max(0, told(slow.count(4)) - 1));
    }

    /** A barrel side by side with this one if there is one in the list's order from a random place. */
    private int beside(int b) {
        int all = told(slow.count(1));
        if (all == 0 || b < 0 || b >= all) {
            return barrel();
        }
        int start = next(all);
        for (int i = 0; i < all; i++) {
            int other = (start + i) % all;
            int apart = Math.abs(told(slow.barrel(b, 0)) - told(slow.barrel(other, 0)))
                    + Math.abs(told(slow.barrel(b, 1)) - told(slow.barrel(other, 1)));
            if (apart == 1) {
                return other;
            }
        }
        return barrel();
    }

    private void same(String call, Answer of, String due) {
        asked++;
        String got;
        try {
            got = "" + of.of();
        } catch (RuntimeException e) {
            got = "throws." + e.getClass().getName().replace("java.lang.", "");
        }
        if (!got.equals(due)) {
            System.out.println("run " + run + ": " + call + " answered " + got + ", due is " + due);
            System.exit(1);
        }
    }

    /** Each turn asks three times at most; a raft is built before the first hours come. */
    private void go() {
        int first = 40;
        if (run % 2 == 1) {
            block();
            first = 0;
        }
        for (int turn = 0; asked <= CALLS - 3; turn++) {
            int kind = turn < first ? next(3) : next(10);
            if (kind == 5 && run % 8 == 3) {
                kind = next(8);
            }
            if (kind < 3) {
                build();
            } else if (kind < 5) {
                people();
            } else if (kind < 6) {
                hours();
            } else {
                ask();
            }
            if (turn % 4 == 0) {
                same("digest()", () -> fast.digest(), slow.digest());
            }
        }
    }

    /** A raft that hangs together closely, so that there are several ways by lashings. */
    private void block() {
        int wave = next(3) == 0 ? 0 : next(9);
        int dx = next(3);
        same("addWater", () -> fast.addWater(0, 0, 30, 20, dx, 0, wave), slow.addWater(0, 0, 30, 20, dx, 0, wave));
        int wide = 2 + next(2);
        int[] places = new int[wide * 3];
        for (int i = 0; i < places.length; i++) {
            int j = next(i + 1);
            places[i] = places[j];
            places[j] = i;
        }
        for (int place : places) {
            int lift = 4 + next(37);
            int leak = next(3) == 0 ? next(5) : 0;
            int column = 2 + place % wide;
            int row = 3 + place / wide;
            same("addBarrel(" + column + ", " + row + ", " + lift + ", " + leak + ")",
                    () -> fast.addBarrel(column, row, lift, leak), slow.addBarrel(column, row, lift, leak));
        }
        for (int i = 0; i < 40 && told(slow.count(9)) > 0 && told(slow.count(7)) < 10; i++) {
            int a = next(places.length);
            int b = beside(a);
            int strength = 1 + next(next(2) == 0 ? 50 : 20);
            if (slow.lashing(a, b, 0).equals("0")) {
                same("tie(" + a + ", " + b + ", " + strength + ")",
                        () -> fast.tie(a, b, strength), slow.tie(a, b, strength));
            }
        }
        for (int i = next(9); i > 0; i--) {
            int b = next(places.length);
            same("addCastaway(" + b + ")", () -> fast.addCastaway(b), slow.addCastaway(b));
        }
    }

    private void build() {
        switch (next(12)) {
            case 0:
                water();
                break;
            case 1:
                int windX = number(-2, 2);
                int windY = number(-2, 2);
                same("setWind(" + windX + ", " + windY + ")",
                        () -> fast.setWind(windX, windY), slow.setWind(windX, windY));
                break;
            case 2:
            case 3:
            case 4:
            case 5:
                cask();
                break;
            case 6:
                int b = barrel();
                int goods = next(3) == 0 ? number(0, 30) : number(0, 9);
                same("load(" + b + ", " + goods + ")", () -> fast.load(b, goods), slow.load(b, goods));
                break;
            case 7:
                int c = barrel();
                int d = beside(c);
                same("cut(" + c + ", " + d + ")", () -> fast.cut(c, d), slow.cut(c, d));
                break;
            default:
                int e = barrel();
                int f = beside(e);
                int strength = number(1, next(2) == 0 ? 50 : 16);
                same("tie(" + e + ", " + f + ", " + strength + ")",
                        () -> fast.tie(e, f, strength), slow.tie(e, f, strength));
                break;
        }
    }

    private void water() {
        int x = number(0, 29);
        int y = number(0, 19);
        int wide = number(1, Math.max(1, 30 - Math.max(0, Math.min(29, x))));
        int deep = number(1, Math.max(1, 20 - Math.max(0, Math.min(19, y))));
        int dx = number(next(3) - 2, 2);
        int dy = number(-2, 2);
        int wave = number(0, next(2) == 0 ? 4 : 20);
        same("addWater(" + x + ", " + y + ", " + wide + ", " + deep + ", " + dx + ", " + dy + ", " + wave + ")",
                () -> fast.addWater(x, y, wide, deep, dx, dy, wave),
                slow.addWater(x, y, wide, deep, dx, dy, wave));
    }

    private void cask() {
        int column = number(0, run % 3 == 0 ? 7 : 4);
        int row = number(0, run % 3 == 0 ? 7 : 3);
        int lift = number(run % 2 == 0 ? 1 : 15, 40);
        int leak = next(3) == 0 ? number(0, 9) : number(0, 1);
        same("addBarrel(" + column + ", " + row + ", " + lift + ", " + leak + ")",
                () -> fast.addBarrel(column, row, lift, leak), slow.addBarrel(column, row, lift, leak));
    }

    private void people() {
        int c = castaway();
        switch (next(4)) {
            case 0:
                int b = barrel();
                same("addCastaway(" + b + ")", () -> fast.addCastaway(b), slow.addCastaway(b));
                break;
            case 1:
                int to = c >= 0 && c < told(slow.count(4)) ? beside(told(slow.castaway(c, 0))) : barrel();
                same("go(" + c + ", " + to + ")", () -> fast.go(c, to), slow.go(c, to));
                break;
            case 2:
                same("bail(" + c + ")", () -> fast.bail(c), slow.bail(c));
                break;
            default:
                int what = number(0, 1);
                same("castaway(" + c + ", " + what + ")", () -> fast.castaway(c, what), slow.castaway(c, what));
                break;
        }
    }

    private void hours() {
        int longest = asked < 480 ? 2 : 100;
        int n = number(1, longest);
        same("pass(" + n + ")", () -> fast.pass(n), slow.pass(n));
    }

    private void ask() {
        int a = barrel();
        int b = next(3) == 0 ? beside(a) : barrel();
        switch (next(9)) {
            case 0:
                int x = next(2) == 0 && told(slow.count(1)) > 0 ? told(slow.barrel(0, 8)) : number(0, 29);
                int y = next(2) == 0 && told(slow.count(1)) > 0 ? told(slow.barrel(0, 9)) : number(0, 19);
                int place = number(0, 4);
                same("sea(" + x + ", " + y + ", " + place + ")",
                        () -> fast.sea(x, y, place), slow.sea(x, y, place));
                break;
            case 1:
                int fact = number(0, 12);
                same("barrel(" + a + ", " + fact + ")", () -> fast.barrel(a, fact), slow.barrel(a, fact));
                break;
            case 2:
                int part = number(0, 2);
                same("lashing(" + a + ", " + b + ", " + part + ")",
                        () -> fast.lashing(a, b, part), slow.lashing(a, b, part));
                break;
            case 3:
                int number = number(0, 11);
                same("count(" + number + ")", () -> fast.count(number), slow.count(number));
                break;
            case 4:
                same("firm(" + a + ", " + b + ")", () -> fast.firm(a, b), slow.firm(a, b));
                break;
            case 5:
                same("hold(" + a + ", " + b + ")", () -> fast.hold(a, b), slow.hold(a, b));
                break;
            case 6:
                int what = number(0, 4);
                same("piece(" + a + ", " + what + ")", () -> fast.piece(a, what), slow.piece(a, what));
                break;
            case 7:
                int hours = number(1, next(2) == 0 ? 100 : 12);
                int then = number(0, 3);
                same("foresee(" + hours + ", " + then + ")",
                        () -> fast.foresee(hours, then), slow.foresee(hours, then));
                break;
            default:
                int most = number(1, 50);
                same("advise(" + most + ")", () -> fast.advise(most), slow.advise(most));
                same("spare()", () -> fast.spare(), slow.spare());
                break;
        }
    }
}
