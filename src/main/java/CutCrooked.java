/** A loaf that is cut crooked, its cutters, the board that holds, and what comes of it. */
public final class CutCrooked {
    public static final int NONE = -1, BAD = -2, STATE = -3, FULL = -4;
    /** There is no such number. */
    public static final long NO = Long.MIN_VALUE;

    // Calls whose answers may lie below 0 tell their refusals by these instead.
    private static final int NONE_APART = -10001;
    private static final int BAD_APART = -10002;
    private static final int UNCUT_APART = -10005;

    private static final int NO_ANSWER = -5;
    private static final int OTHER_KIND = -6;
    private static final int TOO_MANY = -9;
    private static final int FAULT_FROM = -10;

    private static final int MOST_CUTTERS = 6;
    private static final int MOST_ORDERED = 5;
    private static final int MOST_BOARDS = 5;
    private static final int MOST_CLAUSES = 10;
    private static final int MOST_SIGNS = 100;
    private static final int MOST_OPEN = 5;
    private static final int MOST_WEEK = 4;
    private static final int MOST_BOOK = 8;
    private static final int MOST_SLICES = 999;
    private static final int MOST_TRACED = 20;
    private static final int MOST_THICK = 40;
    private static final int MOST_ON = 40;
    private static final int MOST_LASTS = 200;
    private static final int MOST_AGAIN = 20;
    private static final int MOST_WHEN = 20;
    private static final int MOST_GAME = 5;
    private static final int MOST_ODDS = 3;
    private static final int MOST_SLOPE = 99;
    private static final int ROW_SIZE = 4;
    private static final int CORNERS = 4;
    private static final int NEVER = -1;
    private static final int OWN = 0;

    private final Table table = new Table();
    private final Table kept = new Table();
    private boolean imaged;
    private final Trace latest = new Trace();
    private final Board spare = new Board();

    // How the loaf lies behind so many cuts of one search: rows made once, as room is short.
    private final Loaf[] steps = new Loaf[MOST_CUTTERS + 1];
    private final int[] path = new int[MOST_CUTTERS];
    private final int[] best = new int[MOST_CUTTERS];
    private boolean found;
    private int bestSum;
    private int firstWay;

    // What came of the latest round.
    private final Loaf course = new Loaf();
    private final int[] more = new int[MOST_CUTTERS];
    private int goods;
    private int flats;

    public CutCrooked() {
        for (int i = 0; i < steps.length; i++) {
            steps[i] = new Loaf();
        }
    }

    // ---- boards, cutters, loaves

    public int feed(int sign) {
        if (!isWithin(sign, 0, 127)) {
            return BAD;
        }
        if (table.signs >= table.tape.length) {
            return FULL;
        }
        table.tape[table.signs] = (byte) sign;
        table.signs++;
        return table.signs;
    }

    public int board() {
        if (table.boards >= MOST_BOARDS) {
            return FULL;
        }
        boolean read = spare.readFrom(table.tape, table.signs);
        table.signs = 0;
        if (!read) {
            return FAULT_FROM - spare.at;
        }
        table.board.takes(spare);
        table.boards++;
        return table.boards - 1;
    }

    public int cutter(int kind, int v, int u, int s, int thick) {
        if (!isWithin(kind, 0, 6)) {
            return NONE;
        }
        if (!isWithin(v, 0, 9) || !isWithin(u, -9, 9) || !isWithin(s, -9, 9) || !isThick(thick)) {
            return BAD;
        }
        int number = table.cutterCount;
        if (number >= table.cutters.length) {
            return FULL;
        }
        table.cutters[number] = newCutter(kind, number, v, u, s, thick);
        table.cutterCount++;
        return number;
    }

    public int of(int cutter, int what) {
        Cutter one = table.cutterAt(cutter);
        if (one == null) {
            return NONE_APART;
        }
        switch (what) {
            case 0: return one.kind();
            case 1: return one.v;
            case 2: return one.u;
            case 3: return one.s;
            case 4: return one.thickness;
            case 5: return one.eaten;
            default: return NONE_APART;
        }
    }

    public int thick(int cutter, int n) {
        Cutter one = table.cutterAt(cutter);
        if (one == null) {
            return NONE;
        }
        if (!isThick(n)) {
            return BAD;
        }
        int old = one.thickness;
        one.thickness = n;
        return old;
    }

    public int row(int cutter, int k, int n) {
        Cutter one = table.cutterAt(cutter);
        if (one == null || !isWithin(k, 0, ROW_SIZE - 1)) {
            return NONE;
        }
        if (!isWithin(n, 0, 9)) {
            return BAD;
        }
        if (!(one instanceof Told)) {
            return STATE;
        }
        Told told = (Told) one;
        int old = told.digits[k];
        told.digits[k] = n;
        return old;
    }

    public int loaf(int length) {
        if (!isWithin(length, 40, 999)) {
            return BAD;
        }
        int old = table.loaf.whole;
        table.loaf.startsAnew(length);
        return old;
    }

    public int told(int what) {
        switch (what) {
            case 0: return table.loaf.whole;
            case 1: return table.loaf.at;
            case 2: return table.loaf.up;
            case 3: return table.loaf.side;
            case 4: return table.loaf.slices;
            case 5: return table.loaf.waste;
            case 6: return table.board.thin;
            case 7: return table.board.end;
            default: break;
        }
        if (!isWithin(what, 10, 10 + CORNERS - 1)) {
            return NONE_APART;
        }
        return table.loaf.corner(what - 10);
    }

    public int cut(int cutter) {
        Cutter one = table.cutterAt(cutter);
        if (one == null) {
            return NONE;
        }
        if (table.loaf.slices >= MOST_SLICES || !table.loaf.tryCut(one, one.thickness, table.board, false, false)) {
            return STATE;
        }
        one.eaten += table.loaf.weight;
        return table.loaf.weight;
    }

    public int right() {
        if (table.loaf.leastCorner() < table.board.end) {
            return STATE;
        }
        return table.loaf.straighten();
    }

    public int turn(boolean side) {
        if (side) {
            table.loaf.side = -table.loaf.side;
            return table.loaf.side;
        }
        table.loaf.up = -table.loaf.up;
        return table.loaf.up;
    }

    // ---- slices to come

    public int would(int cutter, int what) {
        if (table.cutterAt(cutter) == null || !isWithin(what, 0, 6)) {
            return NONE_APART;
        }
        startSteps();
        if (!tryStep(0, table.cutterAt(cutter), OWN)) {
            return UNCUT_APART;
        }
        Loaf then = steps[1];
        switch (what) {
            case 0: return then.weight;
            case 1: return then.least;
            case 2: return then.most;
            case 3: return then.at;
            case 4: return then.up;
            case 5: return then.side;
            default: return then.waste - table.loaf.waste;
        }
    }

    public int on(int n, int what) {
        boolean ofOne = table.cutterAt(what - 10) != null;
        if (!isWithin(what, 0, 5) && !ofOne) {
            return NONE_APART;
        }
        if (!isWithin(n, 0, MOST_ON)) {
            return BAD_APART;
        }
        goOn(n, NEVER, false, 0);
        switch (what) {
            case 0: return course.at;
            case 1: return course.up;
            case 2: return course.side;
            case 3: return course.waste - table.loaf.waste;
            case 4: return course.slices - table.loaf.slices;
            case 5: return goods;
            default: return valueAt(more, what - 10);
        }
    }

    public int toasted(int n, int m) {
        if (!isWithin(n, 0, MOST_ON) || !isWithin(m, 0, 99)) {
            return BAD;
        }
        goOn(n, NEVER, false, m);
        return flats;
    }

    public int lasts() {
        goOn(MOST_LASTS, NEVER, false, 0);
        return course.slices - table.loaf.slices;
    }

    public int order(int k) {
        if (!isWithin(k, -1, MOST_ORDERED - 1)) {
            return NONE;
        }
        if (table.cutterCount > MOST_ORDERED) {
            return TOO_MANY;
        }
        startSteps();
        tryOrders(0, 0, 0);
        if (!found || k >= table.cutterCount) {
            return NO_ANSWER;
        }
        return k < 0 ? bestSum : valueAt(best, k);
    }

    public int cancel() {
        int least = 0;
        int pair = NO_ANSWER;
        startSteps();
        for (int one = 0; one < table.cutterCount; one++) {
            if (!tryStep(0, table.cutterAt(one), OWN)) {
                continue;
            }
            for (int other = 0; other < table.cutterCount; other++) {
                if (tryStep(1, table.cutterAt(other), OWN) && (pair == NO_ANSWER || steps[2].slope() < least)) {
                    least = steps[2].slope();
                    pair = 10 * one + other;
                }
            }
        }
        return pair;
    }

    public int enough(int cutter) {
        Cutter one = table.cutterAt(cutter);
        if (one == null) {
            return NONE;
        }
        startSteps();
        for (int thick = 1; thick <= MOST_THICK; thick++) {
            if (tryStep(0, one, thick) && steps[1].least >= table.board.thin) {
                return thick;
            }
        }
        return NO_ANSWER;
    }

    public int when(int n, int what) {
        if (!isWithin(what, 0, 1)) {
            return NONE;
        }
        if (!isWithin(n, 1, MOST_WHEN)) {
            return BAD;
        }
        goOn(n, NEVER, false, 0);
        int most = goods;
        int ahead = NO_ANSWER;
        for (int k = 0; k < n; k++) {
            goOn(n, k, false, 0);
            if (goods > most) {
                most = goods;
                ahead = k;
            }
        }
        return what == 0 || ahead == NO_ANSWER ? ahead : most;
    }

    public int guide(int n) {
        if (!isWithin(n, 0, MOST_ON)) {
            return BAD_APART;
        }
        goOn(n, NEVER, false, 0);
        int without = goods;
        goOn(n, NEVER, true, 0);
        return goods - without;
    }

    public int again(int cutter) {
        Cutter one = table.cutterAt(cutter);
        if (one == null) {
            return NONE;
        }
        course.takes(table.loaf);
        for (int cuts = 1; cuts <= MOST_AGAIN; cuts++) {
            course.tryCut(one, one.thickness, table.board, false, true);
            course.at = table.loaf.at;
            if (course.up == table.loaf.up && course.side == table.loaf.side) {
                return cuts;
            }
        }
        return NO_ANSWER;
    }

    public int evener(int n, int what) {
        if (!isWithin(what, 0, 1)) {
            return NONE;
        }
        if (!isWithin(n, 0, MOST_ON)) {
            return BAD;
        }
        goOn(n, NEVER, false, 0);
        int who = NO_ANSWER;
        int most = 0;
        int least = 0;
        for (int i = 0; i < table.cutterCount; i++) {
            Cutter one = table.cutterAt(i);
            int eaten = one == null ? 0 : one.eaten + valueAt(more, i);
            least = i == 0 ? eaten : Math.min(least, eaten);
            if (who == NO_ANSWER || eaten > most) {
                most = eaten;
                who = i;
            }
        }
        return what == 0 || who == NO_ANSWER ? who : most - least;
    }

    public int game(int one, int other, int n, int what) {
        Cutter first = table.cutterAt(one);
        Cutter second = table.cutterAt(other);
        if (first == null || second == null || !isWithin(what, 0, 1)) {
            return NONE_APART;
        }
        if (one == other || !isWithin(n, 1, MOST_GAME)) {
            return BAD_APART;
        }
        startSteps();
        int difference = bestOf(first, second, 0, n);
        return what == 0 ? difference : firstWay;
    }

    public int cheese(int n, int what) {
        boolean ofOne = table.cutterAt(what - 10) != null;
        if (!isWithin(what, 0, 1) && !ofOne) {
            return NONE;
        }
        if (!isWithin(n, 12, 360)) {
            return BAD;
        }
        int left = n;
        int wedges = 0;
        int has = 0;
        // A wedge is one part at least, so that there are never more than n.
        for (int i = 0; i < n && table.cutterCount > 0; i++) {
            int turn = i % table.cutterCount;
            Cutter by = table.cutterAt(turn);
            if (by == null || by.thickness > left) {
                break;
            }
            left -= by.thickness;
            wedges++;
            has += turn == what - 10 ? by.thickness : 0;
        }
        if (ofOne) {
            return has;
        }
        return what == 0 ? wedges : left;
    }

    // ---- seen, rows, odds, books

    public int see(int up, int side) {
        if (!isSlope(up) || !isSlope(side)) {
            return BAD;
        }
        table.seenUp = up;
        table.seenSide = side;
        return 1;
    }

    public int who() {
        int bits = 0;
        startSteps();
        for (int i = 0; i < table.cutterCount; i++) {
            if (tryStep(0, table.cutterAt(i), OWN) && steps[1].up == table.seenUp && steps[1].side == table.seenSide) {
                bits |= 1 << i;
            }
        }
        return bits;
    }

    public int week(int up) {
        if (!isSlope(up)) {
            return BAD;
        }
        if (table.weekCount >= table.ups.length) {
            return FULL;
        }
        table.ups[table.weekCount] = up;
        table.weekCount++;
        return table.weekCount;
    }

    public int clear() {
        int old = table.weekCount;
        table.weekCount = 0;
        return old;
    }

    public int rows(int k) {
        if (!isWithin(k, -1, MOST_WEEK - 1)) {
            return NONE;
        }
        startSteps();
        int many = weekRows(0);
        if (k < 0) {
            return many;
        }
        return found && k < table.weekCount ? valueAt(best, k) : NO_ANSWER;
    }

    public long odds(int n, int part) {
        if (!isWithin(n, 1, MOST_ODDS) || !isWithin(part, 0, 1) || table.cutterCount == 0) {
            return NO;
        }
        long all = 1;
        for (int i = 0; i < n; i++) {
            all *= table.cutterCount;
        }
        startSteps();
        return partOf(goodRows(0, n), all, part);
    }

    public long mean(int part) {
        if (!isWithin(part, 0, 1) || table.cutterCount == 0) {
            return NO;
        }
        long sum = 0;
        startSteps();
        for (int i = 0; i < table.cutterCount; i++) {
            if (tryStep(0, table.cutterAt(i), OWN)) {
                sum += steps[1].weight;
            }
        }
        return partOf(sum, table.cutterCount, part);
    }

    public int book(int cutter, int least) {
        if (cutter == -1) {
            table.bookCount = 0;
            return 0;
        }
        if (table.cutterAt(cutter) == null) {
            return NONE;
        }
        if (!isWithin(least, 0, 999)) {
            return BAD;
        }
        int next = table.bookCount;
        if (next >= table.bookCutters.length || next >= table.bookLeasts.length) {
            return FULL;
        }
        table.bookCutters[next] = cutter;
        table.bookLeasts[next] = least;
        table.bookCount++;
        return table.bookCount;
    }

    public int looked() {
        course.takes(table.loaf);
        for (int i = 0; i < table.bookCount; i++) {
            Cutter by = table.cutterAt(valueAt(table.bookCutters, i));
            if (by == null || !course.tryCut(by, by.thickness, table.board, false, false)) {
                return i;
            }
            if (course.least != valueAt(table.bookLeasts, i)) {
                return i;
            }
        }
        return NO_ANSWER;
    }

    // ---- acts, the image

    public int act(int cutter, int act, int x) {
        latest.ran = 0;
        Cutter one = table.cutterAt(cutter);
        if (one == null) {
            return 0;
        }
        switch (act) {
            case 0: return one.cuts(x, latest);
            case 1: return one.eats(x, latest);
            case 2: return one.tells(x, latest);
            default: return 0;
        }
    }

    public int trace(int i) {
        if (!isWithin(i, 0, latest.bodies.length - 1) || i >= latest.ran) {
            return NONE;
        }
        return latest.bodies[i];
    }

    public int as(int cutter, int k) {
        Cutter one = table.cutterAt(cutter);
        if (one == null || !isWithin(k, 0, 6)) {
            return NONE;
        }
        return isOfKind(one, k) ? one.v : OTHER_KIND;
    }

    public int image() {
        kept.takes(table);
        imaged = true;
        return table.cutterCount;
    }

    public int undo() {
        if (!imaged) {
            return STATE;
        }
        table.takes(kept);
        return table.cutterCount;
    }

    public int count(int what) {
        switch (what) {
            case 0: return table.cutterCount;
            case 1: return table.boards;
            case 2: return table.weekCount;
            case 3: return table.bookCount;
            case 4: return table.signs;
            case 5: return latest.ran;
            default: return NONE;
        }
    }

    // ---- what the calls share

    private static boolean isWithin(int n, int least, int most) {
        return n >= least && n <= most;
    }

    private static boolean isThick(int n) {
        return isWithin(n, 1, MOST_THICK);
    }

    private static boolean isSlope(int n) {
        return isWithin(n, -MOST_SLOPE, MOST_SLOPE);
    }

    private static int valueAt(int[] values, int i) {
        return i >= 0 && i < values.length ? values[i] : 0;
    }

    private static Cutter newCutter(int kind, int number, int v, int u, int s, int thick) {
        switch (kind) {
            case 1: return new Straight(number, v, u, s, thick);
            case 2: return new Slant(number, v, u, s, thick);
            case 3: return new Follow(number, v, u, s, thick);
            case 4: return new Righting(number, v, u, s, thick);
            case 5: return new Over(number, v, u, s, thick);
            case 6: return new Told(number, v, u, s, thick);
            default: return new Cutter(number, v, u, s, thick);
        }
    }

    private static boolean isOfKind(Cutter one, int kind) {
        switch (kind) {
            case 0: return true;
            case 1: return one instanceof Straight;
            case 2: return one instanceof Slant;
            case 3: return one instanceof Follow;
            case 4: return one instanceof Righting;
            case 5: return one instanceof Over;
            case 6: return one instanceof Told;
            default: return false;
        }
    }

    /** Above or below the line of a fraction in lowest terms. */
    private static long partOf(long above, long below, int part) {
        long common = below;
        long rest = above;
        // The rest halves in two rounds at most, so that 128 are more than a long needs.
        for (int i = 0; i < 128 && rest != 0; i++) {
            long next = common % rest;
            common = rest;
            rest = next;
        }
        if (common == 0) {
            return part == 0 ? above : below;
        }
        return part == 0 ? above / common : below / common;
    }

    /** Cuts by all in turn from how the loaf lies now, till one can not be made; put right ahead of one of them. */
    private void goOn(int n, int rightAhead, boolean halved, int flat) {
        course.takes(table.loaf);
        goods = 0;
        flats = 0;
        for (int i = 0; i < more.length; i++) {
            more[i] = 0;
        }
        for (int i = 0; i < n && table.cutterCount > 0; i++) {
            if (i == rightAhead && course.leastCorner() >= table.board.end) {
                course.straighten();
            }
            int turn = i % table.cutterCount;
            Cutter by = table.cutterAt(turn);
            if (by == null || !course.tryCut(by, by.thickness, table.board, halved, false)) {
                return;
            }
            if (turn < more.length) {
                more[turn] += course.weight;
            }
            goods += course.least >= table.board.thin ? 1 : 0;
            flats += course.most <= flat ? 1 : 0;
        }
    }

    private void startSteps() {
        steps[0].takes(table.loaf);
        found = false;
        bestSum = 0;
        firstWay = NO_ANSWER;
    }

    private boolean tryStep(int depth, Cutter by, int thick) {
        if (by == null || depth < 0 || depth + 1 >= steps.length) {
            return false;
        }
        steps[depth + 1].takes(steps[depth]);
        return steps[depth + 1].tryCut(by, thick == OWN ? by.thickness : thick, table.board, false, false);
    }

    private void keepPath(int size) {
        found = true;
        for (int i = 0; i < size && i < path.length && i < best.length; i++) {
            best[i] = path[i];
        }
    }

    private void tryOrders(int depth, int used, int sum) {
        if (depth >= table.cutterCount) {
            if (!found || sum < bestSum) {
                bestSum = sum;
                keepPath(depth);
            }
            return;
        }
        for (int i = 0; i < table.cutterCount && depth < path.length; i++) {
            if ((used >> i & 1) == 0 && tryStep(depth, table.cutterAt(i), OWN)) {
                path[depth] = i;
                Loaf then = steps[depth + 1];
                tryOrders(depth + 1, used | 1 << i, sum + then.most - then.least);
            }
        }
    }

    private int weekRows(int depth) {
        if (depth >= table.weekCount) {
            if (!found) {
                keepPath(depth);
            }
            return 1;
        }
        int many = 0;
        for (int i = 0; i < table.cutterCount && depth < path.length; i++) {
            if (tryStep(depth, table.cutterAt(i), OWN) && steps[depth + 1].up == valueAt(table.ups, depth)) {
                path[depth] = i;
                many += weekRows(depth + 1);
            }
        }
        return many;
    }

    private long goodRows(int depth, int n) {
        if (depth >= n) {
            return 1;
        }
        long many = 0;
        for (int i = 0; i < table.cutterCount; i++) {
            if (tryStep(depth, table.cutterAt(i), OWN) && steps[depth + 1].least >= table.board.thin) {
                many += goodRows(depth + 1, n);
            }
        }
        return many;
    }

    private static int thickByWay(Cutter by, int way) {
        if (way == 1) {
            return Math.min(MOST_THICK, by.thickness + 5);
        }
        return way == 2 ? Math.max(1, by.thickness - 5) : by.thickness;
    }

    /** What the one whose turn it is gets more than the other one, both by the best. */
    private int bestOf(Cutter turn, Cutter other, int depth, int left) {
        if (left <= 0 || depth + 1 >= steps.length) {
            return 0;
        }
        int most = 0;
        int chosen = NO_ANSWER;
        for (int way = 0; way < 3; way++) {
            if (tryStep(depth, turn, thickByWay(turn, way))) {
                int gain = steps[depth + 1].weight - bestOf(other, turn, depth + 1, left - 1);
                if (chosen == NO_ANSWER || gain > most) {
                    most = gain;
                    chosen = way;
                }
            }
        }
        if (chosen == NO_ANSWER) {
            steps[depth + 1].takes(steps[depth]);
            most = -bestOf(other, turn, depth + 1, left - 1);
        }
        if (depth == 0) {
            firstWay = chosen;
        }
        return most;
    }

    // ---- the kinds of cutters

    private static class Cutter {
        final int number;
        final int v;
        final int u;
        final int s;
        int thickness;
        int eaten;

        Cutter(int number, int v, int u, int s, int thickness) {
            this.number = number;
            this.v = v;
            this.u = u;
            this.s = s;
            this.thickness = thickness;
        }

        int kind() {
            return 0;
        }

        /** What it does to the face before it cuts. */
        void prepare(Loaf loaf) {
        }

        /** The slants are handed in, as a guide halves them. */
        int upBy(int slant, Loaf loaf) {
            return slant;
        }

        int sideBy(int slant, Loaf loaf) {
            return slant;
        }

        int cuts(int x, Trace trace) {
            trace.began(1);
            return x + number;
        }

        int eats(int x, Trace trace) {
            trace.began(2);
            return cuts(x, trace) - v;
        }

        int tells(int x, Trace trace) {
            trace.began(3);
            return eats(x, trace) * 2;
        }

        Cutter twin() {
            Cutter twin = newCutter(kind(), number, v, u, s, thickness);
            twin.eaten = eaten;
            return twin;
        }
    }

    private static class Straight extends Cutter {
        Straight(int number, int v, int u, int s, int thickness) {
            super(number, v, u, s, thickness);
        }

        int kind() {
            return 1;
        }

        int upBy(int slant, Loaf loaf) {
            return 0;
        }

        int sideBy(int slant, Loaf loaf) {
            return 0;
        }

        int cuts(int x, Trace trace) {
            trace.began(11);
            return super.cuts(x * 3, trace);
        }
    }

    private static class Slant extends Cutter {
        Slant(int number, int v, int u, int s, int thickness) {
            super(number, v, u, s, thickness);
        }

        int kind() {
            return 2;
        }

        int upBy(int slant, Loaf loaf) {
            return slant + loaf.up / 2;
        }

        int sideBy(int slant, Loaf loaf) {
            return slant + loaf.side / 2;
        }

        int eats(int x, Trace trace) {
            trace.began(21);
            return -super.eats(x, trace);
        }
    }

    private static class Follow extends Cutter {
        Follow(int number, int v, int u, int s, int thickness) {
            super(number, v, u, s, thickness);
        }

        int kind() {
            return 3;
        }

        int upBy(int slant, Loaf loaf) {
            return slant + loaf.up;
        }

        int sideBy(int slant, Loaf loaf) {
            return slant + loaf.side;
        }

        int tells(int x, Trace trace) {
            trace.began(31);
            return super.tells(x, trace) ^ 7;
        }
    }

    private static final class Righting extends Straight {
        Righting(int number, int v, int u, int s, int thickness) {
            super(number, v, u, s, thickness);
        }

        int kind() {
            return 4;
        }

        void prepare(Loaf loaf) {
            loaf.straighten();
        }

        int tells(int x, Trace trace) {
            trace.began(41);
            int told = super.tells(x - 1, trace);
            return told + cuts(2, trace);
        }
    }

    private static final class Over extends Slant {
        Over(int number, int v, int u, int s, int thickness) {
            super(number, v, u, s, thickness);
        }

        int kind() {
            return 5;
        }

        void prepare(Loaf loaf) {
            loaf.up = -loaf.up;
        }

        int cuts(int x, Trace trace) {
            trace.began(51);
            return super.cuts(x, trace) ^ number;
        }
    }

    private static final class Told extends Follow {
        final int[] digits = {4, 4, 4, 4};

        Told(int number, int v, int u, int s, int thickness) {
            super(number, v, u, s, thickness);
        }

        int kind() {
            return 6;
        }

        int upBy(int slant, Loaf loaf) {
            return loaf.up + valueAt(digits, loaf.slices % ROW_SIZE) - 4;
        }

        int eats(int x, Trace trace) {
            trace.began(61);
            return super.eats(x, trace) + v;
        }

        Cutter twin() {
            Told twin = new Told(number, v, u, s, thickness);
            twin.eaten = eaten;
            System.arraycopy(digits, 0, twin.digits, 0, ROW_SIZE);
            return twin;
        }
    }

    // ---- the bodies that ran

    private static final class Trace {
        final int[] bodies = new int[MOST_TRACED];
        int ran;

        void began(int body) {
            if (ran >= 0 && ran < bodies.length) {
                bodies[ran] = body;
            }
            ran++;
        }
    }

    // ---- the loaf and its latest slice

    private static final class Loaf {
        int whole;
        int at;
        int up;
        int side;
        int slices;
        int waste;
        int weight;
        int least;
        int most;
        // What a board's tests measure, in the order of their letters.
        private final int[] start = new int[6];

        void startsAnew(int length) {
            whole = length;
            at = length;
            up = 0;
            side = 0;
            slices = 0;
            waste = 0;
        }

        void takes(Loaf other) {
            whole = other.whole;
            at = other.at;
            up = other.up;
            side = other.side;
            slices = other.slices;
            waste = other.waste;
            weight = other.weight;
            least = other.least;
            most = other.most;
        }

        int corner(int k) {
            return at + acrossAt(k, up, side);
        }

        int slope() {
            return Math.abs(up) + Math.abs(side);
        }

        int leastCorner() {
            return at - slope();
        }

        /** Puts it right; all four corners together are four times AT, whatever the slopes. */
        int straighten() {
            int off = slope();
            at -= off;
            up = 0;
            side = 0;
            waste += CORNERS * off;
            return CORNERS * off;
        }

        /** A cut, if the end that is left by it is long enough (or any end is); else nothing is done. */
        boolean tryCut(Cutter by, int thick, Board board, boolean halved, boolean anyEnd) {
            int oldAt = at;
            int oldUp = up;
            int oldSide = side;
            int oldWaste = waste;
            // Noted ahead of what the cutter prepares, as the board looks at how the cut begins.
            noteStart(by, thick);
            int slip = board.added(false, start, halved);
            int pull = board.added(true, start, halved);
            by.prepare(this);
            int newUp = held(by.upBy(halved ? by.u / 2 : by.u, this) + slip);
            int newSide = held(by.sideBy(halved ? by.s / 2 : by.s, this) + pull);
            weigh(thick, up - newUp, side - newSide);
            at -= thick;
            up = newUp;
            side = newSide;
            if (anyEnd || leastCorner() >= board.end) {
                slices++;
                return true;
            }
            at = oldAt;
            up = oldUp;
            side = oldSide;
            waste = oldWaste;
            return false;
        }

        private void noteStart(Cutter by, int thick) {
            start[0] = by.number;
            start[1] = by.kind();
            start[2] = thick;
            start[3] = Math.abs(up);
            start[4] = at / 10;
            start[5] = slices % 10;
        }

        private void weigh(int thick, int lessUp, int lessSide) {
            weight = 0;
            for (int k = 0; k < CORNERS; k++) {
                int edge = Math.max(0, thick + acrossAt(k, lessUp, lessSide));
                weight += edge;
                least = k == 0 ? edge : Math.min(least, edge);
                most = k == 0 ? edge : Math.max(most, edge);
            }
        }

        private static int acrossAt(int k, int up, int side) {
            return (k < 2 ? up : -up) + (k % 2 == 0 ? -side : side);
        }

        private static int held(int slope) {
            return Math.max(-MOST_SLOPE, Math.min(MOST_SLOPE, slope));
        }
    }

    // ---- the board

    private static final class Board {
        private static final int THIN_WITHOUT = 3;
        private static final int END_WITHOUT = 10;
        private static final String MEASURES = "cktuls";
        private static final String SIGNS = "<=>";
        // A test is a number from 0 on, so that these can stand among tests.
        private static final int NOT = -1;
        private static final int AND = -2;
        private static final int OR = -3;

        int thin = THIN_WITHOUT;
        int end = END_WITHOUT;
        private int addings;
        private final boolean[] pulls = new boolean[MOST_CLAUSES];
        private final int[] amounts = new int[MOST_CLAUSES];
        private final int[] codeEnds = new int[MOST_CLAUSES];
        private final int[] code = new int[MOST_SIGNS];
        private int codes;

        // While it is read: the text, its size, the place (a fault's, behind it), the latest number.
        private byte[] text;
        private int size;
        int at;
        private int number;

        void takes(Board other) {
            thin = other.thin;
            end = other.end;
            addings = other.addings;
            codes = other.codes;
            System.arraycopy(other.pulls, 0, pulls, 0, MOST_CLAUSES);
            System.arraycopy(other.amounts, 0, amounts, 0, MOST_CLAUSES);
            System.arraycopy(other.codeEnds, 0, codeEnds, 0, MOST_CLAUSES);
            System.arraycopy(other.code, 0, code, 0, MOST_SIGNS);
        }

        /** What all slips, or all pulls, that hold add. */
        int added(boolean pull, int[] start, boolean halved) {
            int sum = 0;
            int from = 0;
            for (int i = 0; i < addings && i < MOST_CLAUSES; i++) {
                if (pulls[i] == pull && holds(from, codeEnds[i], start)) {
                    sum += halved ? amounts[i] / 2 : amounts[i];
                }
                from = codeEnds[i];
            }
            return sum;
        }

        /** The code has its signs behind what they join; what is open are bits, the newest one lowest. */
        private boolean holds(int from, int to, int[] start) {
            int open = 0;
            for (int i = from; i >= 0 && i < to && i < code.length; i++) {
                int below = open >> 1;
                if (code[i] == NOT) {
                    open ^= 1;
                } else if (code[i] == AND) {
                    open = (open & 1) == 0 ? below & ~1 : below;
                } else if (code[i] == OR) {
                    open = below | open & 1;
                } else {
                    open = open << 1 | (isTrue(code[i], start) ? 1 : 0);
                }
            }
            return (open & 1) != 0;
        }

        private static boolean isTrue(int test, int[] start) {
            int value = valueAt(start, test / 300);
            int asked = test % 100;
            switch (test / 100 % 3) {
                case 0: return value < asked;
                case 1: return value == asked;
                default: return value > asked;
            }
        }

        /** Whether it is one; if not, the place is that of the fault. */
        boolean readFrom(byte[] tape, int signs) {
            text = tape;
            size = signs;
            at = 0;
            thin = THIN_WITHOUT;
            end = END_WITHOUT;
            addings = 0;
            codes = 0;
            for (int i = 0; i < MOST_CLAUSES; i++) {
                if (!readClause()) {
                    return false;
                }
                if (at == size) {
                    return true;
                }
                if (i + 1 == MOST_CLAUSES || !readSign(';')) {
                    return false;
                }
            }
            return false;
        }

        private boolean readClause() {
            switch (next()) {
                case 't':
                    if (!readWord("thin ") || !readNumber()) {
                        return false;
                    }
                    thin = number;
                    return true;
                case 'e':
                    if (!readWord("end ") || !readNumber()) {
                        return false;
                    }
                    end = number;
                    return true;
                case 's': return readWord("slip ") && readAdding(false);
                case 'p': return readWord("pull ") && readAdding(true);
                default: return false;
            }
        }

        private boolean readAdding(boolean pull) {
            if (!readNumber()) {
                return false;
            }
            int amount = number;
            if (!readSign(' ') || !readEither(0) || addings >= MOST_CLAUSES) {
                return false;
            }
            pulls[addings] = pull;
            amounts[addings] = amount;
            codeEnds[addings] = codes;
            addings++;
            return true;
        }

        private boolean readEither(int open) {
            if (!readBoth(open)) {
                return false;
            }
            for (int i = 0; i < MOST_SIGNS && next() == '|'; i++) {
                at++;
                if (!readBoth(open) || !put(OR)) {
                    return false;
                }
            }
            return true;
        }

        private boolean readBoth(int open) {
            if (!readFactor(open)) {
                return false;
            }
            for (int i = 0; i < MOST_SIGNS && next() == '&'; i++) {
                at++;
                if (!readFactor(open) || !put(AND)) {
                    return false;
                }
            }
            return true;
        }

        private boolean readFactor(int open) {
            int sign = next();
            if (sign != '!' && sign != '(') {
                return readTest();
            }
            if (open >= MOST_OPEN) {
                return false;
            }
            at++;
            if (sign == '!') {
                return readFactor(open + 1) && put(NOT);
            }
            return readEither(open + 1) && readSign(')');
        }

        private boolean readTest() {
            int measure = MEASURES.indexOf((char) next());
            if (measure < 0) {
                return false;
            }
            at++;
            int sign = SIGNS.indexOf((char) next());
            if (sign < 0) {
                return false;
            }
            at++;
            return readNumber() && put((measure * 3 + sign) * 100 + number);
        }

        private boolean readNumber() {
            if (!isDigit(next())) {
                return false;
            }
            number = next() - '0';
            at++;
            if (number != 0 && isDigit(next())) {
                number = number * 10 + next() - '0';
                at++;
            }
            return true;
        }

        private boolean readWord(String word) {
            for (int i = 0; i < word.length(); i++) {
                if (!readSign(word.charAt(i))) {
                    return false;
                }
            }
            return true;
        }

        private boolean readSign(char sign) {
            if (next() != sign) {
                return false;
            }
            at++;
            return true;
        }

        private static boolean isDigit(int sign) {
            return sign >= '0' && sign <= '9';
        }

        private boolean put(int part) {
            if (codes < 0 || codes >= code.length) {
                return false;
            }
            code[codes] = part;
            codes++;
            return true;
        }

        /** The sign at the place; behind the last one 0, which fits nowhere. */
        private int next() {
            return text != null && at >= 0 && at < size && at < text.length ? text[at] : 0;
        }
    }

    // ---- all that an image holds

    private static final class Table {
        final Cutter[] cutters = new Cutter[MOST_CUTTERS];
        int cutterCount;
        final Loaf loaf = new Loaf();
        final Board board = new Board();
        int boards;
        final byte[] tape = new byte[MOST_SIGNS];
        int signs;
        int seenUp;
        int seenSide;
        final int[] ups = new int[MOST_WEEK];
        int weekCount;
        final int[] bookCutters = new int[MOST_BOOK];
        final int[] bookLeasts = new int[MOST_BOOK];
        int bookCount;

        Table() {
            loaf.startsAnew(300);
        }

        Cutter cutterAt(int i) {
            return i >= 0 && i < cutterCount && i < cutters.length ? cutters[i] : null;
        }

        void takes(Table other) {
            cutterCount = other.cutterCount;
            for (int i = 0; i < cutters.length; i++) {
                Cutter one = other.cutterAt(i);
                cutters[i] = one == null ? null : one.twin();
            }
            loaf.takes(other.loaf);
            board.takes(other.board);
            boards = other.boards;
            signs = other.signs;
            seenUp = other.seenUp;
            seenSide = other.seenSide;
            weekCount = other.weekCount;
            bookCount = other.bookCount;
            System.arraycopy(other.tape, 0, tape, 0, MOST_SIGNS);
            System.arraycopy(other.ups, 0, ups, 0, MOST_WEEK);
            System.arraycopy(other.bookCutters, 0, bookCutters, 0, MOST_BOOK);
            System.arraycopy(other.bookLeasts, 0, bookLeasts, 0, MOST_BOOK);
        }
    }
}
