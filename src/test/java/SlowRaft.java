import java.util.ArrayList;
import java.util.List;
import java.util.TreeMap;
import java.util.TreeSet;

/**
 * The document again, in other means than the program's: objects, sets and trying everything out. It
 * answers "throws.X" in place of an exception, so that both can be compared as texts.
 */
final class SlowRaft {
    private static final String INDEX = "throws.IndexOutOfBoundsException";
    private static final String ARGUMENT = "throws.IllegalArgumentException";
    private static final String STATE = "throws.IllegalStateException";

    private static final class Cask {
        int column, row, lift, leak, water, goods, x, y;
        String fate = "floats";
    }

    private static final class Rope {
        int strength, wear;
    }

    private final List<int[]> waters = new ArrayList<>();
    private final List<Cask> casks = new ArrayList<>();
    /** Keys are 100 * the smaller number and the greater one, which is the order of step 3. */
    private TreeMap<Integer, Rope> ties = new TreeMap<>();
    /** The cask of each castaway, -1 when lost, -2 when saved. */
    private final List<Integer> folk = new ArrayList<>();
    private int windX, windY, hour, broke, ropes = 10;

    private SlowRaft copy() {
        SlowRaft c = new SlowRaft();
        c.waters.addAll(waters);
        for (Cask k : casks) {
            Cask n = new Cask();
            n.column = k.column;
            n.row = k.row;
            n.lift = k.lift;
            n.leak = k.leak;
            n.water = k.water;
            n.goods = k.goods;
            n.x = k.x;
            n.y = k.y;
            n.fate = k.fate;
            c.casks.add(n);
        }
        for (int key : ties.keySet()) {
            Rope r = new Rope();
            r.strength = ties.get(key).strength;
            r.wear = ties.get(key).wear;
            c.ties.put(key, r);
        }
        c.folk.addAll(folk);
        c.windX = windX;
        c.windY = windY;
        c.hour = hour;
        c.broke = broke;
        c.ropes = ropes;
        return c;
    }

    // ---- helpers

    private static boolean in(int n, int low, int high) {
        return low <= n && n <= high;
    }

    private boolean noCask(int b) {
        return !in(b, 0, casks.size() - 1);
    }

    private boolean afloat(int b) {
        return casks.get(b).fate.equals("floats");
    }

    private static int key(int a, int b) {
        return 100 * Math.min(a, b) + Math.max(a, b);
    }

    private int on(int b) {
        int n = 0;
        for (int seat : folk) {
            n += seat == b ? 1 : 0;
        }
        return n;
    }

    private int lifts(int b) {
        return casks.get(b).lift * (100 - casks.get(b).water) / 100;
    }

    private int loadOf(int b) {
        return casks.get(b).goods + 7 * on(b);
    }

    /** The piece of a cask as a set, by lashings of these keys alone. */
    private TreeSet<Integer> around(int b, Iterable<Integer> keys) {
        TreeSet<Integer> all = new TreeSet<>();
        all.add(b);
        boolean more = true;
        while (more) {
            more = false;
            for (int key : keys) {
                int a = key / 100;
                int z = key % 100;
                if (all.contains(a) != all.contains(z)) {
                    all.add(a);
                    all.add(z);
                    more = true;
                }
            }
        }
        return all;
    }

    private TreeSet<Integer> pieceOf(int b) {
        return around(b, ties.keySet());
    }

    private List<TreeSet<Integer>> pieces() {
        List<TreeSet<Integer>> all = new ArrayList<>();
        for (int b = 0; b < casks.size(); b++) {
            if (afloat(b) && pieceOf(b).first() == b) {
                all.add(pieceOf(b));
            }
        }
        return all;
    }

    private int sumLifts(Iterable<Integer> piece) {
        int n = 0;
        for (int b : piece) {
            n += lifts(b);
        }
        return n;
    }

    private int sumLoads(Iterable<Integer> piece) {
        int n = 0;
        for (int b : piece) {
            n += loadOf(b);
        }
        return n;
    }

    private int waterAt(int x, int y) {
        for (int w = waters.size() - 1; w >= 0; w--) {
            int[] r = waters.get(w);
            if (in(x, r[0], r[0] + r[2] - 1) && in(y, r[1], r[1] + r[3] - 1)) {
                return w;
            }
        }
        return -1;
    }

    private int flowAt(int x, int y, int what) {
        int w = waterAt(x, y);
        return w < 0 ? 0 : waters.get(w)[4 + what];
    }

    private int stressOf(int key) {
        Cask a = casks.get(key / 100);
        return flowAt(a.x, a.y, 2) + Math.abs(loadOf(key / 100) - loadOf(key % 100)) / 2;
    }

    private void finish(Iterable<Integer> piece, String fate) {
        for (int b : piece) {
            casks.get(b).fate = fate;
            for (int c = 0; c < folk.size(); c++) {
                if (folk.get(c) == b) {
                    folk.set(c, fate.equals("lost") ? -1 : -2);
                }
            }
            if (fate.equals("lost")) {
                casks.get(b).goods = 0;
            }
            ties.keySet().removeIf(key -> key / 100 == b || key % 100 == b);
        }
    }

    private void anHour() {
        for (int b = 0; b < casks.size(); b++) {
            if (afloat(b)) {
                casks.get(b).water = Math.min(100, casks.get(b).water + casks.get(b).leak);
            }
        }
        for (TreeSet<Integer> piece : pieces()) {
            if (sumLoads(piece) > sumLifts(piece)) {
                finish(piece, "lost");
            }
        }
        for (int key : new TreeSet<>(ties.keySet())) {
            int stress = stressOf(key);
            if (stress > ties.get(key).strength - ties.get(key).wear) {
                ties.remove(key);
                broke++;
            } else {
                ties.get(key).wear += stress / 4;
            }
        }
        for (TreeSet<Integer> piece : pieces()) {
            int x = casks.get(piece.first()).x;
            int y = casks.get(piece.first()).y;
            boolean high = 2 * sumLoads(piece) < sumLifts(piece);
            int toX = x + flowAt(x, y, 0) + (high ? windX : 0);
            int toY = y + flowAt(x, y, 1) + (high ? windY : 0);
            for (int b : piece) {
                casks.get(b).x = toX < 0 ? 0 : toX > 29 ? 29 : toX;
                casks.get(b).y = toY < 0 ? 0 : toY > 19 ? 19 : toY;
            }
        }
        for (TreeSet<Integer> piece : pieces()) {
            if (casks.get(piece.first()).x == 29) {
                finish(piece, "saved");
            }
        }
        hour++;
    }

    private int fated(String fate) {
        int n = 0;
        for (Cask k : casks) {
            n += k.fate.equals(fate) ? 1 : 0;
        }
        return n;
    }

    private int folkSaved() {
        return on(-2);
    }

    // ---- the calls

    String addWater(int x, int y, int wide, int deep, int dx, int dy, int wave) {
        if (!in(x, 0, 29) || !in(y, 0, 19) || wide < 1 || deep < 1
                || (long) x + wide > 30 || (long) y + deep > 20
                || !in(dx, -2, 2) || !in(dy, -2, 2) || !in(wave, 0, 20)) {
            return ARGUMENT;
        }
        if (waters.size() == 8) {
            return STATE;
        }
        waters.add(new int[] {x, y, wide, deep, dx, dy, wave});
        return "" + (waters.size() - 1);
    }

    String sea(int x, int y, int what) {
        if (!in(x, 0, 29) || !in(y, 0, 19) || !in(what, 0, 4)) {
            return INDEX;
        }
        if (what < 3) {
            return "" + flowAt(x, y, what);
        }
        if (what == 3) {
            return "" + waterAt(x, y);
        }
        int n = 0;
        for (Cask k : casks) {
            n += k.fate.equals("floats") && k.x == x && k.y == y ? 1 : 0;
        }
        return "" + n;
    }

    String setWind(int dx, int dy) {
        if (!in(dx, -2, 2) || !in(dy, -2, 2)) {
            return ARGUMENT;
        }
        String before = "" + (5 * (windX + 2) + windY + 2);
        windX = dx;
        windY = dy;
        return before;
    }

    String addBarrel(int column, int row, int lift, int leak) {
        if (!in(column, 0, 7) || !in(row, 0, 7) || !in(lift, 1, 40) || !in(leak, 0, 9)) {
            return ARGUMENT;
        }
        for (Cask k : casks) {
            if (k.column == column && k.row == row) {
                return STATE;
            }
        }
        if (casks.size() == 24) {
            return STATE;
        }
        Cask n = new Cask();
        n.column = column;
        n.row = row;
        n.lift = lift;
        n.leak = leak;
        n.y = 10;
        for (int b = casks.size() - 1; b >= 0; b--) {
            if (afloat(b)) {
                n.x = casks.get(b).x;
                n.y = casks.get(b).y;
            }
        }
        casks.add(n);
        return "" + (casks.size() - 1);
    }

    String tie(int a, int b, int strength) {
        if (noCask(a) || noCask(b)) {
            return INDEX;
        }
        if (a == b || !in(strength, 1, 50)) {
            return ARGUMENT;
        }
        Cask k = casks.get(a);
        Cask m = casks.get(b);
        boolean side = k.row == m.row && (k.column == m.column + 1 || m.column == k.column + 1)
                || k.column == m.column && (k.row == m.row + 1 || m.row == k.row + 1);
        if (!afloat(a) || !afloat(b) || !side || k.x != m.x || k.y != m.y || ropes == 0) {
            return STATE;
        }
        Rope r = new Rope();
        r.strength = strength;
        ties.put(key(a, b), r);
        return "" + --ropes;
    }

    String cut(int a, int b) {
        if (noCask(a) || noCask(b)) {
            return INDEX;
        }
        if (ties.remove(key(a, b)) == null) {
            return STATE;
        }
        ropes = ropes == 40 ? 40 : ropes + 1;
        return "" + ropes;
    }

    String load(int b, int goods) {
        if (noCask(b)) {
            return INDEX;
        }
        if (!in(goods, 0, 30)) {
            return ARGUMENT;
        }
        if (!afloat(b)) {
            return STATE;
        }
        String before = "" + casks.get(b).goods;
        casks.get(b).goods = goods;
        return before;
    }

    String barrel(int b, int what) {
        if (noCask(b) || !in(what, 0, 12)) {
            return INDEX;
        }
        Cask k = casks.get(b);
        int tied = 0;
        for (int key : ties.keySet()) {
            tied += key / 100 == b || key % 100 == b ? 1 : 0;
        }
        int fate = k.fate.equals("floats") ? 0 : k.fate.equals("lost") ? 1 : 2;
        int piece = fate == 0 ? pieceOf(b).first() : -1;
        int[] facts = {k.column, k.row, k.lift, k.leak, k.water, k.goods, fate, piece, k.x, k.y, tied,
            lifts(b), loadOf(b)};
        return "" + facts[what];
    }

    String lashing(int a, int b, int what) {
        if (noCask(a) || noCask(b) || !in(what, 0, 2)) {
            return INDEX;
        }
        Rope r = ties.get(key(a, b));
        if (r == null) {
            return "0";
        }
        return "" + (what == 0 ? r.strength : what == 1 ? r.wear : stressOf(key(a, b)));
    }

    String addCastaway(int b) {
        if (noCask(b)) {
            return INDEX;
        }
        if (!afloat(b) || folk.size() == 8) {
            return STATE;
        }
        folk.add(b);
        return "" + (folk.size() - 1);
    }

    String go(int c, int b) {
        if (!in(c, 0, folk.size() - 1) || noCask(b)) {
            return INDEX;
        }
        if (folk.get(c) < 0 || !ties.containsKey(key(folk.get(c), b))) {
            return STATE;
        }
        folk.set(c, b);
        return "" + on(b);
    }

    String bail(int c) {
        if (!in(c, 0, folk.size() - 1)) {
            return INDEX;
        }
        if (folk.get(c) < 0) {
            return STATE;
        }
        Cask k = casks.get(folk.get(c));
        k.water = k.water < 25 ? 0 : k.water - 25;
        return "" + k.water;
    }

    String castaway(int c, int what) {
        if (!in(c, 0, folk.size() - 1) || !in(what, 0, 1)) {
            return INDEX;
        }
        int seat = folk.get(c);
        return "" + (what == 0 ? Math.max(seat, -1) : seat >= 0 ? 0 : -seat);
    }

    String pass(int hours) {
        if (!in(hours, 1, 100)) {
            return ARGUMENT;
        }
        int before = broke;
        for (int h = 0; h < hours; h++) {
            anHour();
        }
        return "" + (broke - before);
    }

    String count(int what) {
        if (!in(what, 0, 11)) {
            return INDEX;
        }
        int goods = 0;
        for (Cask k : casks) {
            goods += k.fate.equals("saved") ? k.goods : 0;
        }
        int[] facts = {hour, casks.size(), fated("floats"), fated("saved"), folk.size(),
            folk.size() - on(-1) - on(-2), folkSaved(), ties.size(), pieces().size(), ropes, broke, goods};
        return "" + facts[what];
    }

    /** Tries every choice of lashings to be without. */
    String firm(int a, int b) {
        if (noCask(a) || noCask(b)) {
            return INDEX;
        }
        if (a == b) {
            return "-1";
        }
        List<Integer> keys = new ArrayList<>(ties.keySet());
        int least = keys.size();
        for (int choice = 0; choice < 1 << keys.size(); choice++) {
            if (Integer.bitCount(choice) < least) {
                List<Integer> left = new ArrayList<>();
                for (int i = 0; i < keys.size(); i++) {
                    if ((choice >> i & 1) == 0) {
                        left.add(keys.get(i));
                    }
                }
                if (!around(a, left).contains(b)) {
                    least = Integer.bitCount(choice);
                }
            }
        }
        return "" + least;
    }

    String hold(int a, int b) {
        if (noCask(a) || noCask(b)) {
            return INDEX;
        }
        for (int n = a == b ? 0 : 50; n > 0; n--) {
            List<Integer> strong = new ArrayList<>();
            for (int key : ties.keySet()) {
                if (ties.get(key).strength - ties.get(key).wear >= n) {
                    strong.add(key);
                }
            }
            if (around(a, strong).contains(b)) {
                return "" + n;
            }
        }
        return "0";
    }

    String piece(int b, int what) {
        if (noCask(b) || !in(what, 0, 4)) {
            return INDEX;
        }
        if (!afloat(b)) {
            return "0";
        }
        TreeSet<Integer> all = pieceOf(b);
        int people = 0;
        for (int k : all) {
            people += on(k);
        }
        int single = 0;
        for (int key : ties.keySet()) {
            List<Integer> left = new ArrayList<>(ties.keySet());
            left.remove((Integer) key);
            if (all.contains(key / 100) && !around(key / 100, left).contains(key % 100)) {
                single++;
            }
        }
        int[] facts = {all.size(), sumLifts(all), sumLoads(all), people, single};
        return "" + facts[what];
    }

    String foresee(int hours, int what) {
        if (!in(hours, 1, 100)) {
            return ARGUMENT;
        }
        if (!in(what, 0, 3)) {
            return INDEX;
        }
        SlowRaft then = copy();
        then.pass(hours);
        int[] facts = {then.fated("floats"), then.folkSaved(), then.pieces().size(), then.ties.size()};
        return "" + facts[what];
    }

    String advise(int hours) {
        if (!in(hours, 1, 50)) {
            return ARGUMENT;
        }
        SlowRaft without = copy();
        without.pass(hours);
        int most = without.folkSaved();
        int best = -1;
        for (int key : ties.keySet()) {
            SlowRaft then = copy();
            then.ties.get(key).strength = 50;
            then.ties.get(key).wear = 0;
            then.pass(hours);
            if (then.folkSaved() > most) {
                most = then.folkSaved();
                best = 24 * (key / 100) + key % 100;
            }
        }
        return "" + best;
    }

    String spare() {
        List<Integer> all = new ArrayList<>();
        for (int b = 0; b < casks.size(); b++) {
            if (afloat(b)) {
                all.add(b);
            }
        }
        return "" + (all.isEmpty() ? 0.0 : (sumLifts(all) - sumLoads(all)) / (double) all.size());
    }

    String digest() {
        List<String> told = new ArrayList<>();
        for (int what = 0; what <= 11; what++) {
            told.add(count(what));
        }
        for (int b = 0; b < casks.size(); b++) {
            for (int what = 0; what <= 12; what++) {
                told.add(barrel(b, what));
            }
        }
        for (int key : ties.keySet()) {
            told.add("" + key / 100);
            told.add("" + key % 100);
            told.add("" + ties.get(key).strength);
            told.add("" + ties.get(key).wear);
        }
        for (int c = 0; c < folk.size(); c++) {
            told.add(castaway(c, 0));
            told.add(castaway(c, 1));
        }
        long d = 571;
        for (String x : told) {
            d = d * 31 + Long.parseLong(x);
        }
        return "" + d;
    }
}
