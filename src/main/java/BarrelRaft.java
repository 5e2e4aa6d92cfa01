import java.util.Arrays;

/** A raft of barrels that castaways have built. */
public final class BarrelRaft {
    private static final int NONE = -1;

    private static final int SEA_COLUMNS = 30;
    private static final int SEA_ROWS = 20;
    private static final int SHORE = SEA_COLUMNS - 1;
    private static final int FIRST_X = 0;
    private static final int FIRST_Y = 10;
    private static final int MOST_WATERS = 8;
    private static final int MOST_FLOW = 2;
    private static final int FLOWS = 5;
    private static final int MOST_WAVES = 20;

    private static final int BOARD_SIDE = 8;
    private static final int MOST_BARRELS = 24;
    private static final int MOST_LIFT = 40;
    private static final int MOST_LEAK = 9;
    private static final int FULL = 100;
    private static final int MOST_GOODS = 30;
    private static final int FLOATS = 0;
    private static final int LOST = 1;
    private static final int SAVED = 2;

    /** A barrel has four neighbours at most, and a lashing has two barrels. */
    private static final int MOST_LASHINGS = MOST_BARRELS * 4 / 2;
    private static final int MOST_STRENGTH = 50;
    private static final int WEAR_PART = 4;
    private static final int FIRST_ROPES = 10;
    private static final int MOST_ROPES = 40;

    private static final int MOST_CASTAWAYS = 8;
    private static final int CASTAWAY_LOAD = 7;
    private static final int BAILED = 25;

    private static final int MOST_HOURS = 100;
    private static final int MOST_ADVISED_HOURS = 50;

    private static final int SEA_FACTS = 5;
    private static final int BARREL_FACTS = 13;
    private static final int LASHING_FACTS = 3;
    private static final int CASTAWAY_FACTS = 2;
    private static final int COUNTS = 12;
    private static final int PIECE_FACTS = 5;
    private static final int FORESIGHTS = 4;
    private static final long DIGEST_START = 571L;
    private static final long DIGEST_FACTOR = 31L;

    private final Waters waters = new Waters();
    private final Raft raft = new Raft();
    /** What would come is tried out here, so that the raft itself stays as it is. */
    private final Raft trial = new Raft();
    private final Ways ways = new Ways();
    private int ropes = FIRST_ROPES;

    public BarrelRaft() {
    }

    // ---- the sea

    public int addWater(int x, int y, int wide, int deep, int dx, int dy, int wave)
            throws IllegalArgumentException, IllegalStateException {
        if (!isSea(x, y) || wide < 1 || deep < 1) {
            throw new IllegalArgumentException("no such place or size");
        }
        if (wide > SEA_COLUMNS - x || deep > SEA_ROWS - y) {
            throw new IllegalArgumentException("not all in the sea");
        }
        if (!isFlow(dx) || !isFlow(dy) || wave < 0 || wave > MOST_WAVES) {
            throw new IllegalArgumentException("no such current or waves");
        }
        if (waters.number >= MOST_WATERS) {
            throw new IllegalStateException("no more waters");
        }
        waters.cover(x, y, wide, deep);
        return waters.append(dx, dy, wave);
    }

    public int sea(int x, int y, int what) throws IndexOutOfBoundsException {
        if (!isSea(x, y) || !isBelow(what, SEA_FACTS)) {
            throw new IndexOutOfBoundsException("no such place or question");
        }
        int water = waters.at(x, y);
        switch (what) {
            case 0:
                return waters.dxOf(water);
            case 1:
                return waters.dyOf(water);
            case 2:
                return waters.waveOf(water);
            case 3:
                return water;
            default:
                return raft.barrels.afloatAt(x, y);
        }
    }

    public int setWind(int dx, int dy) throws IllegalArgumentException {
        if (!isFlow(dx) || !isFlow(dy)) {
            throw new IllegalArgumentException("no such wind");
        }
        int before = FLOWS * (waters.windDx + MOST_FLOW) + waters.windDy + MOST_FLOW;
        waters.windDx = dx;
        waters.windDy = dy;
        return before;
    }

    // ---- barrels and lashings

    public int addBarrel(int column, int row, int lift, int leak)
            throws IllegalArgumentException, IllegalStateException {
        if (!isBelow(column, BOARD_SIDE) || !isBelow(row, BOARD_SIDE)) {
            throw new IllegalArgumentException("not on the board");
        }
        if (lift < 1 || lift > MOST_LIFT || leak < 0 || leak > MOST_LEAK) {
            throw new IllegalArgumentException("no such lift or leak");
        }
        if (raft.barrels.liesAt(column, row) || raft.barrels.number >= MOST_BARRELS) {
            throw new IllegalStateException("no room for a barrel");
        }
        return raft.barrels.append(column, row, lift, leak);
    }

    public int tie(int a, int b, int strength)
            throws IndexOutOfBoundsException, IllegalArgumentException, IllegalStateException {
        if (!raft.barrels.has(a) || !raft.barrels.has(b)) {
            throw new IndexOutOfBoundsException("no such barrel");
        }
        if (a == b || strength < 1 || strength > MOST_STRENGTH) {
            throw new IllegalArgumentException("the same barrel, or no such strength");
        }
        if (!raft.barrels.canBeTied(a, b) || ropes <= 0) {
            throw new IllegalStateException("these can't be tied");
        }
        raft.lashings.make(Math.min(a, b), Math.max(a, b), strength);
        raft.findPieces();
        ropes--;
        return ropes;
    }

    public int cut(int a, int b) throws IndexOutOfBoundsException, IllegalStateException {
        if (!raft.barrels.has(a) || !raft.barrels.has(b)) {
            throw new IndexOutOfBoundsException("no such barrel");
        }
        int found = raft.lashings.find(a, b);
        if (found < 0) {
            throw new IllegalStateException("no lashing");
        }
        raft.lashings.undo(found);
        raft.lashings.sweep();
        raft.findPieces();
        ropes = Math.min(MOST_ROPES, ropes + 1);
        return ropes;
    }

    public int load(int barrel, int goods)
            throws IndexOutOfBoundsException, IllegalArgumentException, IllegalStateException {
        if (!raft.barrels.has(barrel)) {
            throw new IndexOutOfBoundsException("no such barrel");
        }
        if (goods < 0 || goods > MOST_GOODS) {
            throw new IllegalArgumentException("no such goods");
        }
        if (!raft.barrels.floats(barrel)) {
            throw new IllegalStateException("the barrel does not float");
        }
        int before = raft.barrels.goods[barrel];
        raft.barrels.goods[barrel] = goods;
        return before;
    }

    public int barrel(int barrel, int what) throws IndexOutOfBoundsException {
        if (!raft.barrels.has(barrel) || !isBelow(what, BARREL_FACTS)) {
            throw new IndexOutOfBoundsException("no such barrel or question");
        }
        return barrelFact(barrel, what);
    }

    public int lashing(int a, int b, int what) throws IndexOutOfBoundsException {
        if (!raft.barrels.has(a) || !raft.barrels.has(b) || !isBelow(what, LASHING_FACTS)) {
            throw new IndexOutOfBoundsException("no such barrel or question");
        }
        int found = raft.lashings.find(a, b);
        if (found < 0) {
            return 0;
        }
        switch (what) {
            case 0:
                return raft.lashings.strength[found];
            case 1:
                return raft.lashings.wear[found];
            default:
                return raft.stress(found, waters);
        }
    }

    // ---- castaways

    public int addCastaway(int barrel) throws IndexOutOfBoundsException, IllegalStateException {
        if (!raft.barrels.has(barrel)) {
            throw new IndexOutOfBoundsException("no such barrel");
        }
        if (!raft.barrels.floats(barrel) || raft.castaways.number >= MOST_CASTAWAYS) {
            throw new IllegalStateException("no castaway can come there");
        }
        raft.barrels.people[barrel]++;
        return raft.castaways.append(barrel);
    }

    public int go(int castaway, int barrel) throws IndexOutOfBoundsException, IllegalStateException {
        if (!raft.castaways.has(castaway) || !raft.barrels.has(barrel)) {
            throw new IndexOutOfBoundsException("no such castaway or barrel");
        }
        int from = raft.castaways.seat[castaway];
        if (!raft.barrels.has(from) || raft.lashings.find(from, barrel) < 0) {
            throw new IllegalStateException("no lashing to go over");
        }
        raft.barrels.people[from]--;
        raft.barrels.people[barrel]++;
        raft.castaways.seat[castaway] = barrel;
        return raft.barrels.people[barrel];
    }

    public int bail(int castaway) throws IndexOutOfBoundsException, IllegalStateException {
        if (!raft.castaways.has(castaway)) {
            throw new IndexOutOfBoundsException("no such castaway");
        }
        int seat = raft.castaways.seat[castaway];
        if (!raft.barrels.has(seat)) {
            throw new IllegalStateException("the castaway is on no barrel");
        }
        raft.barrels.water[seat] = Math.max(0, raft.barrels.water[seat] - BAILED);
        return raft.barrels.water[seat];
    }

    public int castaway(int castaway, int what) throws IndexOutOfBoundsException {
        if (!raft.castaways.has(castaway) || !isBelow(what, CASTAWAY_FACTS)) {
            throw new IndexOutOfBoundsException("no such castaway or question");
        }
        return castawayFact(castaway, what);
    }

    // ---- hours

    public int pass(int hours) throws IllegalArgumentException {
        if (hours < 1 || hours > MOST_HOURS) {
            throw new IllegalArgumentException("no such hours");
        }
        int before = raft.broken;
        raft.passHours(hours, waters);
        return raft.broken - before;
    }

    public int count(int what) throws IndexOutOfBoundsException {
        if (!isBelow(what, COUNTS)) {
            throw new IndexOutOfBoundsException("no such question");
        }
        return countFact(what);
    }

    // ---- how firmly, and what will be

    public int firm(int a, int b) throws IndexOutOfBoundsException {
        if (!raft.barrels.has(a) || !raft.barrels.has(b)) {
            throw new IndexOutOfBoundsException("no such barrel");
        }
        return a == b ? -1 : ways.countApart(raft.lashings, a, b);
    }

    public int hold(int a, int b) throws IndexOutOfBoundsException {
        if (!raft.barrels.has(a) || !raft.barrels.has(b)) {
            throw new IndexOutOfBoundsException("no such barrel");
        }
        return a == b ? 0 : ways.strongest(raft.lashings, a, b);
    }

    public int piece(int barrel, int what) throws IndexOutOfBoundsException {
        if (!raft.barrels.has(barrel) || !isBelow(what, PIECE_FACTS)) {
            throw new IndexOutOfBoundsException("no such barrel or question");
        }
        int name = raft.barrels.piece[barrel];
        if (name < 0) {
            return 0;
        }
        return what == 4 ? singleLashings(name) : pieceSum(name, what);
    }

    public int foresee(int hours, int what) throws IllegalArgumentException, IndexOutOfBoundsException {
        if (hours < 1 || hours > MOST_HOURS) {
            throw new IllegalArgumentException("no such hours");
        }
        if (!isBelow(what, FORESIGHTS)) {
            throw new IndexOutOfBoundsException("no such question");
        }
        trial.copyFrom(raft);
        trial.passHours(hours, waters);
        switch (what) {
            case 0:
                return trial.barrels.countOf(FLOATS);
            case 1:
                return trial.castaways.countOf(SAVED);
            case 2:
                return trial.barrels.pieces();
            default:
                return trial.lashings.number;
        }
    }

    public int advise(int hours) throws IllegalArgumentException {
        if (hours < 1 || hours > MOST_ADVISED_HOURS) {
            throw new IllegalArgumentException("no such hours");
        }
        int most = savedWith(NONE, hours);
        int best = NONE;
        // When all who are not lost are saved, no lashing can save more, and the tries are dear.
        int possible = raft.castaways.number - raft.castaways.countOf(LOST);
        for (int i = 0; i < raft.lashings.number && most < possible; i++) {
            int saved = savedWith(i, hours);
            if (saved > most) {
                most = saved;
                best = MOST_BARRELS * raft.lashings.first[i] + raft.lashings.second[i];
            }
        }
        return best;
    }

    public double spare() {
        int afloat = raft.barrels.countOf(FLOATS);
        if (afloat == 0) {
            return 0.0;
        }
        int left = 0;
        for (int i = 0; i < raft.barrels.number; i++) {
            if (raft.barrels.floats(i)) {
                left += raft.barrels.liftNow(i) - raft.barrels.loadOf(i);
            }
        }
        return (double) left / (double) afloat;
    }

    public long digest() {
        long d = DIGEST_START;
        for (int what = 0; what < COUNTS; what++) {
            d = d * DIGEST_FACTOR + countFact(what);
        }
        for (int i = 0; i < raft.barrels.number; i++) {
            for (int what = 0; what < BARREL_FACTS; what++) {
                d = d * DIGEST_FACTOR + barrelFact(i, what);
            }
        }
        for (int i = 0; i < raft.lashings.number; i++) {
            d = d * DIGEST_FACTOR + raft.lashings.first[i];
            d = d * DIGEST_FACTOR + raft.lashings.second[i];
            d = d * DIGEST_FACTOR + raft.lashings.strength[i];
            d = d * DIGEST_FACTOR + raft.lashings.wear[i];
        }
        for (int i = 0; i < raft.castaways.number; i++) {
            for (int what = 0; what < CASTAWAY_FACTS; what++) {
                d = d * DIGEST_FACTOR + castawayFact(i, what);
            }
        }
        return d;
    }

    // ---- what the calls above share

    private static boolean isBelow(int number, int end) {
        return number >= 0 && number < end;
    }

    private static boolean isSea(int x, int y) {
        return x >= 0 && x < SEA_COLUMNS && y >= 0 && y < SEA_ROWS;
    }

    private static boolean isFlow(int d) {
        return d >= -MOST_FLOW && d <= MOST_FLOW;
    }

    private int barrelFact(int b, int what) {
        Barrels barrels = raft.barrels;
        switch (what) {
            case 0:
                return barrels.column[b];
            case 1:
                return barrels.row[b];
            case 2:
                return barrels.lift[b];
            case 3:
                return barrels.leak[b];
            case 4:
                return barrels.water[b];
            case 5:
                return barrels.goods[b];
            case 6:
                return barrels.state[b];
            case 7:
                return barrels.piece[b];
            case 8:
                return barrels.x[b];
            case 9:
                return barrels.y[b];
            case 10:
                return raft.lashings.countAt(b);
            case 11:
                return barrels.liftNow(b);
            default:
                return barrels.loadOf(b);
        }
    }

    private int castawayFact(int c, int what) {
        return what == 0 ? raft.castaways.seat[c] : raft.castaways.state[c];
    }

    private int countFact(int what) {
        switch (what) {
            case 0:
                return raft.hour;
            case 1:
                return raft.barrels.number;
            case 2:
                return raft.barrels.countOf(FLOATS);
            case 3:
                return raft.barrels.countOf(SAVED);
            case 4:
                return raft.castaways.number;
            case 5:
                return raft.castaways.countOf(FLOATS);
            case 6:
                return raft.castaways.countOf(SAVED);
            case 7:
                return raft.lashings.number;
            case 8:
                return raft.barrels.pieces();
            case 9:
                return ropes;
            case 10:
                return raft.broken;
            default:
                return raft.barrels.goodsSaved();
        }
    }

    /** One answer of piece(), added up over the barrels of the piece. */
    private int pieceSum(int name, int what) {
        Barrels barrels = raft.barrels;
        int sum = 0;
        for (int i = 0; i < barrels.number; i++) {
            if (barrels.piece[i] == name) {
                switch (what) {
                    case 0:
                        sum++;
                        break;
                    case 1:
                        sum += barrels.liftNow(i);
                        break;
                    case 2:
                        sum += barrels.loadOf(i);
                        break;
                    default:
                        sum += barrels.people[i];
                        break;
                }
            }
        }
        return sum;
    }

    /** A lashing alone keeps a piece whole if nothing else joins its own two barrels. */
    private int singleLashings(int name) {
        Lashings lashings = raft.lashings;
        int sum = 0;
        for (int i = 0; i < lashings.number; i++) {
            int first = lashings.first[i];
            if (raft.barrels.piece[first] == name
                    && ways.countApart(lashings, first, lashings.second[i]) == 1) {
                sum++;
            }
        }
        return sum;
    }

    /** How many castaways are saved then, if this lashing (or NONE) is made anew now. */
    private int savedWith(int lashing, int hours) {
        trial.copyFrom(raft);
        if (lashing >= 0 && lashing < trial.lashings.number) {
            trial.lashings.renew(lashing, MOST_STRENGTH);
        }
        trial.passHours(hours, waters);
        return trial.castaways.countOf(SAVED);
    }

    /** The waters of the sea, and the wind. */
    private static final class Waters {
        final int[] dx = new int[MOST_WATERS];
        final int[] dy = new int[MOST_WATERS];
        final int[] wave = new int[MOST_WATERS];
        /** The water that counts at each place: no water ever goes, so the newest one stays on top. */
        final int[] counting = new int[SEA_COLUMNS * SEA_ROWS];
        int number;
        int windDx;
        int windDy;

        Waters() {
            Arrays.fill(counting, NONE);
        }

        void cover(int x, int y, int wide, int deep) {
            for (int row = y; row < y + deep; row++) {
                for (int column = x; column < x + wide; column++) {
                    if (isSea(column, row)) {
                        counting[column + SEA_COLUMNS * row] = number;
                    }
                }
            }
        }

        int append(int newDx, int newDy, int newWave) {
            int water = number;
            if (water < MOST_WATERS) {
                dx[water] = newDx;
                dy[water] = newDy;
                wave[water] = newWave;
                number++;
            }
            return water;
        }

        int at(int x, int y) {
            return isSea(x, y) ? counting[x + SEA_COLUMNS * y] : NONE;
        }

        boolean has(int water) {
            return water >= 0 && water < number;
        }

        int dxOf(int water) {
            return has(water) ? dx[water] : 0;
        }

        int dyOf(int water) {
            return has(water) ? dy[water] : 0;
        }

        int waveOf(int water) {
            return has(water) ? wave[water] : 0;
        }
    }

    /** All barrels, row by row; piece is always right between two calls. */
    private static final class Barrels {
        final int[] column = new int[MOST_BARRELS];
        final int[] row = new int[MOST_BARRELS];
        final int[] lift = new int[MOST_BARRELS];
        final int[] leak = new int[MOST_BARRELS];
        final int[] water = new int[MOST_BARRELS];
        final int[] goods = new int[MOST_BARRELS];
        final int[] people = new int[MOST_BARRELS];
        final int[] state = new int[MOST_BARRELS];
        final int[] x = new int[MOST_BARRELS];
        final int[] y = new int[MOST_BARRELS];
        final int[] piece = new int[MOST_BARRELS];
        int number;

        boolean has(int b) {
            return b >= 0 && b < number;
        }

        boolean floats(int b) {
            return has(b) && state[b] == FLOATS;
        }

        int liftNow(int b) {
            return lift[b] * (FULL - water[b]) / FULL;
        }

        int loadOf(int b) {
            return goods[b] + CASTAWAY_LOAD * people[b];
        }

        int firstAfloat() {
            for (int i = 0; i < number; i++) {
                if (state[i] == FLOATS) {
                    return i;
                }
            }
            return NONE;
        }

        int countOf(int wanted) {
            int sum = 0;
            for (int i = 0; i < number; i++) {
                if (state[i] == wanted) {
                    sum++;
                }
            }
            return sum;
        }

        int afloatAt(int atX, int atY) {
            int sum = 0;
            for (int i = 0; i < number; i++) {
                if (state[i] == FLOATS && x[i] == atX && y[i] == atY) {
                    sum++;
                }
            }
            return sum;
        }

        int pieces() {
            int sum = 0;
            for (int i = 0; i < number; i++) {
                if (piece[i] == i) {
                    sum++;
                }
            }
            return sum;
        }

        int goodsSaved() {
            int sum = 0;
            for (int i = 0; i < number; i++) {
                if (state[i] == SAVED) {
                    sum += goods[i];
                }
            }
            return sum;
        }

        boolean liesAt(int atColumn, int atRow) {
            for (int i = 0; i < number; i++) {
                if (column[i] == atColumn && row[i] == atRow) {
                    return true;
                }
            }
            return false;
        }

        boolean canBeTied(int a, int b) {
            if (!floats(a) || !floats(b)) {
                return false;
            }
            int apart = Math.abs(column[a] - column[b]) + Math.abs(row[a] - row[b]);
            return apart == 1 && x[a] == x[b] && y[a] == y[b];
        }

        int append(int newColumn, int newRow, int newLift, int newLeak) {
            int b = number;
            if (b < MOST_BARRELS) {
                int beside = firstAfloat();
                x[b] = beside >= 0 ? x[beside] : FIRST_X;
                y[b] = beside >= 0 ? y[beside] : FIRST_Y;
                column[b] = newColumn;
                row[b] = newRow;
                lift[b] = newLift;
                leak[b] = newLeak;
                piece[b] = b;
                number++;
            }
            return b;
        }

        void takeInWater() {
            for (int i = 0; i < number; i++) {
                if (state[i] == FLOATS) {
                    water[i] = Math.min(FULL, water[i] + leak[i]);
                }
            }
        }

        /** Saved goods stay where they are; lost ones are at the bottom of the sea. */
        void end(int b, int fate) {
            state[b] = fate;
            piece[b] = NONE;
            people[b] = 0;
            if (fate == LOST) {
                goods[b] = 0;
            }
        }

        void standAlone() {
            for (int i = 0; i < number; i++) {
                piece[i] = state[i] == FLOATS ? i : NONE;
            }
        }

        /** No barrel of a piece has a smaller number than its name, so those ahead are skipped. */
        void join(int a, int b) {
            int name = Math.min(piece[a], piece[b]);
            int other = Math.max(piece[a], piece[b]);
            if (name < 0 || name == other) {
                return;
            }
            for (int i = other; i < number; i++) {
                if (piece[i] == other) {
                    piece[i] = name;
                }
            }
        }

        void copyFrom(Barrels from) {
            System.arraycopy(from.column, 0, column, 0, MOST_BARRELS);
            System.arraycopy(from.row, 0, row, 0, MOST_BARRELS);
            System.arraycopy(from.lift, 0, lift, 0, MOST_BARRELS);
            System.arraycopy(from.leak, 0, leak, 0, MOST_BARRELS);
            System.arraycopy(from.water, 0, water, 0, MOST_BARRELS);
            System.arraycopy(from.goods, 0, goods, 0, MOST_BARRELS);
            System.arraycopy(from.people, 0, people, 0, MOST_BARRELS);
            System.arraycopy(from.state, 0, state, 0, MOST_BARRELS);
            System.arraycopy(from.x, 0, x, 0, MOST_BARRELS);
            System.arraycopy(from.y, 0, y, 0, MOST_BARRELS);
            System.arraycopy(from.piece, 0, piece, 0, MOST_BARRELS);
            number = from.number;
        }
    }

    /** All castaways; seat is the barrel of one who is afloat, and NONE for the others. */
    private static final class Castaways {
        final int[] seat = new int[MOST_CASTAWAYS];
        final int[] state = new int[MOST_CASTAWAYS];
        int number;

        boolean has(int c) {
            return c >= 0 && c < number;
        }

        int append(int barrel) {
            int c = number;
            if (c < MOST_CASTAWAYS) {
                seat[c] = barrel;
                state[c] = FLOATS;
                number++;
            }
            return c;
        }

        int countOf(int wanted) {
            int sum = 0;
            for (int i = 0; i < number; i++) {
                if (state[i] == wanted) {
                    sum++;
                }
            }
            return sum;
        }

        void shareFate(Barrels barrels) {
            for (int i = 0; i < number; i++) {
                int barrel = seat[i];
                if (barrels.has(barrel) && barrels.state[barrel] != FLOATS) {
                    state[i] = barrels.state[barrel];
                    seat[i] = NONE;
                }
            }
        }

        void copyFrom(Castaways from) {
            System.arraycopy(from.seat, 0, seat, 0, MOST_CASTAWAYS);
            System.arraycopy(from.state, 0, state, 0, MOST_CASTAWAYS);
            number = from.number;
        }
    }

    /** All lashings, in the order of their first barrels, of the same in that of the second ones. */
    private static final class Lashings {
        final int[] first = new int[MOST_LASHINGS];
        final int[] second = new int[MOST_LASHINGS];
        /** A strength of 0 marks a lashing that the next sweep takes away. */
        final int[] strength = new int[MOST_LASHINGS];
        final int[] wear = new int[MOST_LASHINGS];
        int number;

        int find(int a, int b) {
            int low = Math.min(a, b);
            int high = Math.max(a, b);
            for (int i = 0; i < number; i++) {
                if (first[i] == low && second[i] == high) {
                    return i;
                }
            }
            return NONE;
        }

        int countAt(int barrel) {
            int sum = 0;
            for (int i = 0; i < number; i++) {
                if (first[i] == barrel || second[i] == barrel) {
                    sum++;
                }
            }
            return sum;
        }

        /** The barrel to which this lashing leads from there, NONE if it is not tied there. */
        int leadsTo(int i, int barrel) {
            if (first[i] == barrel) {
                return second[i];
            }
            return second[i] == barrel ? first[i] : NONE;
        }

        int left(int i) {
            return strength[i] - wear[i];
        }

        void make(int low, int high, int newStrength) {
            int found = find(low, high);
            if (found >= 0) {
                renew(found, newStrength);
            } else if (number < MOST_LASHINGS) {
                insert(low, high, newStrength);
            }
        }

        void renew(int i, int newStrength) {
            strength[i] = newStrength;
            wear[i] = 0;
        }

        void insert(int low, int high, int newStrength) {
            int at = number;
            for (int i = number - 1; i >= 0 && isAfter(i, low, high); i--) {
                move(i, i + 1);
                at = i;
            }
            first[at] = low;
            second[at] = high;
            renew(at, newStrength);
            number++;
        }

        boolean isAfter(int i, int low, int high) {
            return first[i] > low || first[i] == low && second[i] > high;
        }

        void move(int from, int to) {
            first[to] = first[from];
            second[to] = second[from];
            strength[to] = strength[from];
            wear[to] = wear[from];
        }

        void undo(int i) {
            strength[i] = 0;
        }

        void sweep() {
            int kept = 0;
            for (int i = 0; i < number; i++) {
                if (strength[i] > 0) {
                    move(i, kept);
                    kept++;
                }
            }
            number = kept;
        }

        void copyFrom(Lashings from) {
            System.arraycopy(from.first, 0, first, 0, MOST_LASHINGS);
            System.arraycopy(from.second, 0, second, 0, MOST_LASHINGS);
            System.arraycopy(from.strength, 0, strength, 0, MOST_LASHINGS);
            System.arraycopy(from.wear, 0, wear, 0, MOST_LASHINGS);
            number = from.number;
        }
    }

    /** All that the hours change. */
    private static final class Raft {
        final Barrels barrels = new Barrels();
        final Castaways castaways = new Castaways();
        final Lashings lashings = new Lashings();
        /** What each piece lifts and its load, at the number of its name, since the last weighing. */
        final int[] pieceLift = new int[MOST_BARRELS];
        final int[] pieceLoad = new int[MOST_BARRELS];
        int hour;
        int broken;

        void copyFrom(Raft from) {
            barrels.copyFrom(from.barrels);
            castaways.copyFrom(from.castaways);
            lashings.copyFrom(from.lashings);
            hour = from.hour;
            broken = from.broken;
        }

        void findPieces() {
            barrels.standAlone();
            for (int i = 0; i < lashings.number; i++) {
                barrels.join(lashings.first[i], lashings.second[i]);
            }
        }

        int stress(int i, Waters waters) {
            int a = lashings.first[i];
            int b = lashings.second[i];
            int wave = waters.waveOf(waters.at(barrels.x[a], barrels.y[a]));
            return wave + Math.abs(barrels.loadOf(a) - barrels.loadOf(b)) / 2;
        }

        void passHours(int hours, Waters waters) {
            // Where nothing floats, an hour changes nothing but the time.
            for (int i = 0; i < hours && barrels.firstAfloat() >= 0; i++) {
                barrels.takeInWater();
                loseOverloaded();
                wearLashings(waters);
                drift(waters);
                saveAshore();
            }
            hour += hours;
        }

        void loseOverloaded() {
            weighPieces();
            boolean any = false;
            for (int i = 0; i < barrels.number; i++) {
                int name = barrels.piece[i];
                if (name >= 0 && pieceLoad[name] > pieceLift[name]) {
                    barrels.end(i, LOST);
                    any = true;
                }
            }
            if (any) {
                leaveEnded();
            }
        }

        void wearLashings(Waters waters) {
            int before = lashings.number;
            for (int i = 0; i < before; i++) {
                int strain = stress(i, waters);
                if (strain > lashings.left(i)) {
                    lashings.undo(i);
                } else {
                    lashings.wear[i] += strain / WEAR_PART;
                }
            }
            lashings.sweep();
            if (lashings.number < before) {
                broken += before - lashings.number;
                findPieces();
            }
        }

        void drift(Waters waters) {
            weighPieces();
            for (int i = 0; i < barrels.number; i++) {
                int name = barrels.piece[i];
                if (name == i) {
                    driftPiece(i, waters);
                } else if (name >= 0) {
                    // The barrel that names a piece has its smallest number, so it has gone already.
                    barrels.x[i] = barrels.x[name];
                    barrels.y[i] = barrels.y[name];
                }
            }
        }

        void driftPiece(int name, Waters waters) {
            int water = waters.at(barrels.x[name], barrels.y[name]);
            int dx = waters.dxOf(water);
            int dy = waters.dyOf(water);
            if (2 * pieceLoad[name] < pieceLift[name]) {
                dx += waters.windDx;
                dy += waters.windDy;
            }
            barrels.x[name] = Math.max(0, Math.min(SEA_COLUMNS - 1, barrels.x[name] + dx));
            barrels.y[name] = Math.max(0, Math.min(SEA_ROWS - 1, barrels.y[name] + dy));
        }

        void saveAshore() {
            boolean any = false;
            for (int i = 0; i < barrels.number; i++) {
                if (barrels.floats(i) && barrels.x[i] == SHORE) {
                    barrels.end(i, SAVED);
                    any = true;
                }
            }
            if (any) {
                leaveEnded();
            }
        }

        /** Pieces end whole, so the names of the other ones stay right. */
        void leaveEnded() {
            castaways.shareFate(barrels);
            for (int i = 0; i < lashings.number; i++) {
                if (!barrels.floats(lashings.first[i])) {
                    lashings.undo(i);
                }
            }
            lashings.sweep();
        }

        void weighPieces() {
            for (int i = 0; i < barrels.number; i++) {
                pieceLift[i] = 0;
                pieceLoad[i] = 0;
            }
            for (int i = 0; i < barrels.number; i++) {
                int name = barrels.piece[i];
                if (name >= 0) {
                    pieceLift[name] += barrels.liftNow(i);
                    pieceLoad[name] += barrels.loadOf(i);
                }
            }
        }
    }

    /** Looks for ways by lashings; its rows are used again by each search. */
    private static final class Ways {
        /** 1 for a lashing used from its first barrel to its second one, -1 for the other way, or 0. */
        final int[] used = new int[MOST_LASHINGS];
        /** The lashing by which a search came to each barrel. */
        final int[] cameBy = new int[MOST_BARRELS];
        final int[] reached = new int[MOST_BARRELS];
        final int[] best = new int[MOST_BARRELS];

        /**
         * The least number of lashings that part two barrels is the greatest number of ways between
         * them that share no lashing.
         */
        int countApart(Lashings lashings, int from, int to) {
            Arrays.fill(used, 0);
            int found = 0;
            while (found < lashings.number && findWay(lashings, from, to)) {
                useWay(lashings, from, to);
                found++;
            }
            return found;
        }

        boolean findWay(Lashings lashings, int from, int to) {
            Arrays.fill(cameBy, NONE);
            reached[0] = from;
            int known = 1;
            for (int i = 0; i < known && i < MOST_BARRELS && cameBy[to] < 0; i++) {
                known = reachFrom(lashings, reached[i], from, known);
            }
            return cameBy[to] >= 0;
        }

        int reachFrom(Lashings lashings, int at, int from, int before) {
            int known = before;
            for (int i = 0; i < lashings.number; i++) {
                int next = lashings.leadsTo(i, at);
                if (next >= 0 && next != from && cameBy[next] < 0
                        && used[i] != direction(lashings, i, at) && known < MOST_BARRELS) {
                    cameBy[next] = i;
                    reached[known] = next;
                    known++;
                }
            }
            return known;
        }

        int direction(Lashings lashings, int i, int from) {
            return lashings.first[i] == from ? 1 : -1;
        }

        /** A lashing that is used both ways is used by neither of them: they go on crosswise. */
        void useWay(Lashings lashings, int from, int to) {
            int at = to;
            for (int steps = 0; steps < MOST_BARRELS && at >= 0 && at != from; steps++) {
                int by = cameBy[at];
                int before = by >= 0 ? lashings.leadsTo(by, at) : NONE;
                if (before >= 0) {
                    used[by] += direction(lashings, by, before);
                }
                at = before;
            }
        }

        int strongest(Lashings lashings, int from, int to) {
            Arrays.fill(best, 0);
            best[from] = MOST_STRENGTH;
            boolean better = true;
            for (int i = 0; i < MOST_BARRELS && better; i++) {
                better = strengthen(lashings);
            }
            return best[to];
        }

        boolean strengthen(Lashings lashings) {
            boolean better = false;
            for (int i = 0; i < lashings.number; i++) {
                int a = lashings.first[i];
                int b = lashings.second[i];
                int most = Math.min(lashings.left(i), Math.max(best[a], best[b]));
                if (most > best[a]) {
                    best[a] = most;
                    better = true;
                }
                if (most > best[b]) {
                    best[b] = most;
                    better = true;
                }
            }
            return better;
        }
    }
}
