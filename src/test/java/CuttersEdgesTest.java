import java.util.function.IntUnaryOperator;

/** Terms 1, what is told of cutters, the loaf and its face: each edge by a step inside it and one beyond. */
public final class CuttersEdgesTest {
    private static final Due DUE = new Due();

    public static void main(String[] args) {
        sixCuttersAtMost();
        eachCallKnowsWhoIsThere();
        kindsFrom0To6();
        vFrom0To9();
        slantsFromMinus9To9();
        thickFrom1To40();
        eatenIs0AtFirst();
        rowOfFourNumbers();
        rowIsOfToldOnes();
        longFrom40To999();
        faceIsStraightAtFirst();
        slopesFromMinus99To99();
        corners();
        slicesAndWasteAre0AtFirst();
        whatIsAskedOfOne();
        whatIsTold();
        whatIsCounted();
        DUE.end();
    }

    /** So many straight ones of thick 5. */
    private static CutCrooked straight(int many) {
        CutCrooked x = new CutCrooked();
        for (int i = 0; i < many; i++) {
            x.cutter(1, i, 0, 0, 5);
        }
        return x;
    }

    private static void each(String call, IntUnaryOperator answer, int[] arguments, int[] due) {
        for (int i = 0; i < arguments.length; i++) {
            DUE.is(call + " of " + arguments[i], answer.applyAsInt(arguments[i]), due[i]);
        }
    }

    /** "CUTTERS are numbered from 0 on, 6 at most" (promises 1, 4, 38 to 40). */
    private static void sixCuttersAtMost() {
        DUE.part("6 cutters at most");
        CutCrooked x = new CutCrooked();
        DUE.is("nobody at first", x.count(0), 0);
        DUE.is("an image of nobody", x.image(), 0);
        for (int i = 0; i < 6; i++) {
            DUE.is("cutter", x.cutter(i % 7, 0, 0, 0, 1), i);
            DUE.is("count(0)", x.count(0), i + 1);
        }
        DUE.is("the seventh", x.cutter(0, 0, 0, 0, 1), -4);
        DUE.is("count(0)", x.count(0), 6);
        DUE.is("the sixth is as it was made", x.of(5, 0), 5);
        DUE.is("undo()", x.undo(), 0);
        for (int i = 0; i < 6; i++) {
            DUE.is("again from 0 on", x.cutter(0, 0, 0, 0, 1), i);
        }
        DUE.is("an image of six", x.image(), 6);
        DUE.is("the seventh again", x.cutter(0, 0, 0, 0, 1), -4);
        DUE.is("undo()", x.undo(), 6);
    }

    /** "NONE there is no such CUTTER": the last one is there, the next one is not, for each call that names one. */
    private static void eachCallKnowsWhoIsThere() {
        for (int many = 0; many <= 6; many++) {
            DUE.part("who is there of " + many);
            CutCrooked x = straight(many);
            for (int c : new int[] {Integer.MIN_VALUE, -1, many, Integer.MAX_VALUE}) {
                isNobody(x, c);
            }
            if (many > 0) {
                isThere(x, many - 1);
                isThere(x, 0);
            }
        }
    }

    private static void isNobody(CutCrooked x, int c) {
        String who = "(" + c + ")";
        DUE.is("of" + who, x.of(c, 0), -10001);
        DUE.is("thick" + who, x.thick(c, 5), -1);
        DUE.is("row" + who, x.row(c, 0, 0), -1);
        DUE.is("cut" + who, x.cut(c), -1);
        DUE.is("would" + who, x.would(c, 0), -10001);
        DUE.is("on" + who, x.on(1, 10 + c), -10001);
        DUE.is("enough" + who, x.enough(c), -1);
        DUE.is("again" + who, x.again(c), -1);
        DUE.is("game, one" + who, x.game(c, 0, 1, 0), -10001);
        DUE.is("game, other" + who, x.game(0, c, 1, 0), -10001);
        DUE.is("cheese" + who, x.cheese(12, 10 + c), -1);
        DUE.is("book" + who, x.book(c, 0), c == -1 ? 0 : -1);
        DUE.is("as" + who, x.as(c, 0), -1);
        DUE.is("act" + who, x.act(c, 0, 7), 0);
        DUE.is("count(5)", x.count(5), 0);
    }

    private static void isThere(CutCrooked x, int c) {
        String who = "(" + c + ")";
        x.loaf(300);
        DUE.is("of" + who, x.of(c, 1), c);
        DUE.is("thick" + who, x.thick(c, 5), 5);
        DUE.is("row" + who, x.row(c, 0, 0), -3);
        DUE.is("would" + who, x.would(c, 0), 20);
        DUE.is("on" + who, x.on(6, 10 + c) > 0 ? 1 : 0, 1);
        DUE.is("enough" + who, x.enough(c), 3);
        DUE.is("again" + who, x.again(c), 1);
        DUE.is("game" + who, x.game(c, c, 1, 0), -10002);
        DUE.is("cheese" + who, x.cheese(30, 10 + c) > 0 ? 1 : 0, 1);
        DUE.is("book" + who, x.book(c, 0), 1);
        x.book(-1, 0);
        DUE.is("who" + who, x.who() >> c & 1, 1);
        DUE.is("as" + who, x.as(c, 0), c);
        DUE.is("act" + who, x.act(c, 0, 0), c);
        DUE.is("cut" + who, x.cut(c), 20);
    }

    /** "each of a KIND: 0 .. 6" (promises 4, 5, 37). */
    private static void kindsFrom0To6() {
        DUE.part("kinds");
        int[] kinds = {Integer.MIN_VALUE, -1, 0, 1, 5, 6, 7, Integer.MAX_VALUE};
        int[] made = {-1, -1, 0, 0, 0, 0, -1, -1};
        each("cutter", k -> new CutCrooked().cutter(k, 0, 0, 0, 1), kinds, made);
        CutCrooked x = new CutCrooked();
        x.cutter(6, 7, 0, 0, 1);
        x.cutter(0, 8, 0, 0, 1);
        each("as of TOLD", k -> x.as(0, k), kinds, new int[] {-1, -1, 7, -6, -6, 7, -1, -1});
        each("as of CUTTER", k -> x.as(1, k), kinds, new int[] {-1, -1, 8, -6, -6, -6, -1, -1});
        for (int kind = 0; kind <= 6; kind++) {
            CutCrooked y = new CutCrooked();
            y.cutter(kind, 0, 0, 0, 1);
            DUE.is("of(0, 0)", y.of(0, 0), kind);
        }
    }

    /** "a number v (0 .. 9)" (promises 4, 5, 37). */
    private static void vFrom0To9() {
        DUE.part("v");
        int[] vs = {Integer.MIN_VALUE, -1, 0, 1, 8, 9, 10, Integer.MAX_VALUE};
        each("cutter", v -> new CutCrooked().cutter(0, v, 0, 0, 1), vs, new int[] {-2, -2, 0, 0, 0, 0, -2, -2});
        each("of(.., 1)", v -> one(0, v, 0, 0, 1).of(0, 1), new int[] {0, 1, 8, 9}, new int[] {0, 1, 8, 9});
        each("as(.., 0)", v -> one(0, v, 0, 0, 1).as(0, 0), new int[] {0, 1, 8, 9}, new int[] {0, 1, 8, 9});
    }

    private static CutCrooked one(int kind, int v, int u, int s, int thick) {
        CutCrooked x = new CutCrooked();
        x.cutter(kind, v, u, s, thick);
        return x;
    }

    /** "slants of its own U and S (-9 .. 9 each)" (promises 4, 5, 10, 13). */
    private static void slantsFromMinus9To9() {
        DUE.part("slants");
        int[] all = {Integer.MIN_VALUE, -10, -9, -8, 0, 8, 9, 10, Integer.MAX_VALUE};
        int[] made = {-2, -2, 0, 0, 0, 0, 0, -2, -2};
        each("cutter, u", u -> new CutCrooked().cutter(0, 0, u, 0, 1), all, made);
        each("cutter, s", s -> new CutCrooked().cutter(0, 0, 0, s, 1), all, made);
        int[] good = {-9, -8, 0, 8, 9};
        each("of(.., 2)", u -> one(0, 0, u, 1, 1).of(0, 2), good, good);
        each("of(.., 3)", s -> one(0, 0, 1, s, 1).of(0, 3), good, good);
        each("would(.., 4)", u -> one(0, 0, u, 1, 1).would(0, 4), good, good);
        each("would(.., 5)", s -> one(0, 0, 1, s, 1).would(0, 5), good, good);
    }

    /** "a THICK (1 .. 40)" (promises 4, 5, 6, 10, 13, 25). */
    private static void thickFrom1To40() {
        DUE.part("thick");
        int[] all = {Integer.MIN_VALUE, -1, 0, 1, 2, 39, 40, 41, Integer.MAX_VALUE};
        each("cutter", t -> new CutCrooked().cutter(0, 0, 0, 0, t), all, new int[] {-2, -2, -2, 0, 0, 0, 0, -2, -2});
        each("thick", t -> one(0, 0, 0, 0, 7).thick(0, t), all, new int[] {-2, -2, -2, 7, 7, 7, 7, -2, -2});
        int[] good = {1, 2, 39, 40};
        for (int t : good) {
            CutCrooked x = one(1, 0, 0, 0, 7);
            x.thick(0, t);
            DUE.is("of(0, 4)", x.of(0, 4), t);
            DUE.is("would(0, 3)", x.would(0, 3), 300 - t);
            DUE.is("cheese(40, 1)", x.cheese(40, 1), 40 % t);
            DUE.is("cut(0)", x.cut(0), 4 * t);
            DUE.is("what it was", x.thick(0, 7), t);
        }
        CutCrooked y = one(1, 0, 0, 0, 7);
        for (int t : new int[] {0, 41, -7}) {
            y.thick(0, t);
            DUE.is("a refused one changes nothing", y.of(0, 4), 7);
        }
    }

    /** "EATEN (0 at first)" (promises 4, 5, 8, 23). */
    private static void eatenIs0AtFirst() {
        DUE.part("eaten");
        CutCrooked x = one(1, 0, 0, 0, 10);
        DUE.is("at first", x.of(0, 5), 0);
        DUE.is("evener(0, 1)", x.evener(0, 1), 0);
        x.cut(0);
        DUE.is("of(0, 5)", x.of(0, 5), 40);
        x.cutter(1, 0, 0, 0, 10);
        DUE.is("one who comes later", x.of(1, 5), 0);
        DUE.is("evener(0, 1)", x.evener(0, 1), 40);
        x.loaf(40);
        DUE.is("it stays by a new loaf", x.of(0, 5), 40);
    }

    /** "TOLD ones a ROW of four numbers (0 .. 9; 4 at first)" (promise 7). */
    private static void rowOfFourNumbers() {
        DUE.part("row");
        CutCrooked x = one(6, 0, 9, 0, 1);
        for (int k = 0; k < 4; k++) {
            x.cut(0);
            DUE.is("4 at first leaves UP", x.told(2), 0);
        }
        int[] ks = {Integer.MIN_VALUE, -1, 0, 1, 2, 3, 4, Integer.MAX_VALUE};
        each("row, k", k -> x.row(0, k, 4), ks, new int[] {-1, -1, 4, 4, 4, 4, -1, -1});
        int[] ns = {Integer.MIN_VALUE, -1, 0, 1, 8, 9, 10, Integer.MAX_VALUE};
        each("row, n", n -> one(6, 0, 0, 0, 1).row(0, 0, n), ns, new int[] {-2, -2, 4, 4, 4, 4, -2, -2});
        x.row(0, 0, 9);
        for (int n : new int[] {-1, 10}) {
            x.row(0, 0, n);
        }
        DUE.is("a refused one changes nothing", x.row(0, 0, 0), 9);
        DUE.is("row", x.row(0, 0, 4), 0);
        for (int k = 1; k < 4; k++) {
            DUE.is("the others stay", x.row(0, k, 4), 4);
        }
    }

    /** "STATE: another KIND" (promise 7). */
    private static void rowIsOfToldOnes() {
        DUE.part("row of kinds");
        for (int kind = 0; kind <= 6; kind++) {
            CutCrooked x = one(kind, 0, 0, 0, 1);
            DUE.is("row of kind " + kind, x.row(0, 3, 9), kind == 6 ? 4 : -3);
        }
    }

    /** "LONG (40 .. 999; 300 at first)" (promises 1, 8, 9). */
    private static void longFrom40To999() {
        DUE.part("long");
        int[] all = {Integer.MIN_VALUE, 0, 39, 40, 41, 998, 999, 1000, Integer.MAX_VALUE};
        int[] due = {-2, -2, -2, 300, 300, 300, 300, -2, -2};
        each("loaf", n -> new CutCrooked().loaf(n), all, due);
        CutCrooked x = one(1, 0, 0, 0, 5);
        for (int n : new int[] {40, 41, 998, 999}) {
            x.loaf(n);
            DUE.is("told(0)", x.told(0), n);
            DUE.is("told(1)", x.told(1), n);
            x.cut(0);
            DUE.is("LONG stays by a CUT", x.told(0), n);
            DUE.is("how long the old one was", x.loaf(300), n);
        }
        x.cut(0);
        for (int n : new int[] {39, 1000}) {
            x.loaf(n);
            DUE.is("a refused one leaves LONG", x.told(0), 300);
            DUE.is("a refused one leaves AT", x.told(1), 295);
            DUE.is("a refused one leaves SLICES", x.told(4), 1);
        }
    }

    /** "AT (LONG at first), UP and SIDE (0 at first)" (promises 1, 8, 9, 11, 12). */
    private static void faceIsStraightAtFirst() {
        DUE.part("the face at first");
        CutCrooked x = one(0, 0, 9, -9, 20);
        for (int n : new int[] {300, 40, 999}) {
            DUE.is("told(1)", x.told(1), n == 300 ? 300 : n);
            DUE.is("told(2)", x.told(2), 0);
            DUE.is("told(3)", x.told(3), 0);
            DUE.is("right()", x.right(), 0);
            DUE.is("turn(false)", x.turn(false), 0);
            DUE.is("turn(true)", x.turn(true), 0);
            DUE.is("told(5)", x.told(5), 0);
            x.loaf(200);
            x.cut(0);
            x.loaf(n == 300 ? 40 : 999);
        }
    }

    /** "UP and SIDE (.. -99 .. 99)" (promises 9, 12, 26, 28). */
    private static void slopesFromMinus99To99() {
        DUE.part("slopes");
        int[] all = {Integer.MIN_VALUE, -100, -99, -98, 0, 98, 99, 100, Integer.MAX_VALUE};
        int[] due = {-2, -2, 1, 1, 1, 1, 1, -2, -2};
        each("see, up", n -> new CutCrooked().see(n, 0), all, due);
        each("see, side", n -> new CutCrooked().see(0, n), all, due);
        each("week", n -> new CutCrooked().week(n), all, due);
        CutCrooked x = one(3, 0, 0, 0, 1);
        Due.board(x, "slip 99 s=0;pull 98 s=0");
        x.cut(0);
        DUE.is("told(2)", x.told(2), 99);
        DUE.is("told(3)", x.told(3), 98);
        DUE.is("turn(false)", x.turn(false), -99);
        DUE.is("turn(true)", x.turn(true), -98);
        DUE.is("told(2)", x.told(2), -99);
        DUE.is("told(3)", x.told(3), -98);
        x.see(-99, -98);
        DUE.is("who()", x.who(), 1);
        x.week(-99);
        DUE.is("rows(-1)", x.rows(-1), 1);
        x.see(-98, -98);
        DUE.is("a step beside it", x.who(), 0);
        x.week(-98);
        DUE.is("a step beside it", x.rows(-1), 0);
    }

    /** "The four CORNERS": AT and UP less SIDE, and with it, AT less UP less SIDE, and with it (promise 9). */
    private static void corners() {
        DUE.part("corners");
        int[][] slopes = {{7, 2}, {7, -2}, {-7, 2}, {-7, -2}, {0, 2}, {7, 0}, {0, 0}};
        int[][] due = {{285, 289, 271, 275}, {289, 285, 275, 271}, {271, 275, 285, 289}, {275, 271, 289, 285},
            {278, 282, 278, 282}, {287, 287, 273, 273}, {280, 280, 280, 280}};
        for (int i = 0; i < slopes.length; i++) {
            CutCrooked x = one(0, 0, slopes[i][0], slopes[i][1], 20);
            x.cut(0);
            each("told by " + i, x::told, new int[] {10, 11, 12, 13}, due[i]);
            int low = Math.abs(slopes[i][0]) + Math.abs(slopes[i][1]);
            DUE.is("the least one", x.right(), 4 * low);
            DUE.is("AT is the least one", x.told(1), 280 - low);
            for (int k = 10; k < 14; k++) {
                DUE.is("all alike then", x.told(k), 280 - low);
            }
        }
    }

    /** "SLICES, WASTE: 0 at first" (promises 1, 8, 9, 11). */
    private static void slicesAndWasteAre0AtFirst() {
        DUE.part("slices and waste");
        CutCrooked x = one(0, 0, 3, 0, 20);
        DUE.is("told(4)", x.told(4), 0);
        DUE.is("told(5)", x.told(5), 0);
        x.cut(0);
        x.right();
        DUE.is("told(4)", x.told(4), 1);
        DUE.is("told(5)", x.told(5), 12);
        x.cut(0);
        x.right();
        DUE.is("told(4)", x.told(4), 2);
        DUE.is("told(5)", x.told(5), 24);
        x.loaf(300);
        DUE.is("told(4)", x.told(4), 0);
        DUE.is("told(5)", x.told(5), 0);
    }

    /** "Of a CUTTER what 0 KIND .. 5 EATEN. -10001: NONE" (promise 5). */
    private static void whatIsAskedOfOne() {
        DUE.part("of");
        CutCrooked x = one(5, 6, -9, 9, 40);
        x.cut(0);
        each("of(0, ..)", what -> x.of(0, what), new int[] {Integer.MIN_VALUE, -1, 0, 1, 2, 3, 4, 5, 6,
            Integer.MAX_VALUE}, new int[] {-10001, -10001, 5, 6, -9, 9, 40, 160, -10001, -10001});
    }

    /** "What 0 LONG .. 7 END, 10 and k the k-th CORNER (k 0 .. 3). -10001: NONE" (promise 9). */
    private static void whatIsTold() {
        DUE.part("told");
        CutCrooked x = one(0, 0, 4, 1, 20);
        x.cut(0);
        each("told", x::told, new int[] {Integer.MIN_VALUE, -1, 0, 1, 6, 7, 8, 9, 10, 11, 12, 13, 14,
            Integer.MAX_VALUE}, new int[] {-10001, -10001, 300, 280, 3, 10, -10001, -10001, 283, 285, 275, 277,
            -10001, -10001});
    }

    /** "0 CUTTERS .. 5 bodies that ran .. NONE" (promise 40). */
    private static void whatIsCounted() {
        DUE.part("count");
        CutCrooked x = new CutCrooked();
        int[] whats = {Integer.MIN_VALUE, -1, 0, 1, 2, 3, 4, 5, 6, Integer.MAX_VALUE};
        each("count, empty", x::count, whats, new int[] {-1, -1, 0, 0, 0, 0, 0, 0, -1, -1});
        for (int i = 0; i < 6; i++) {
            x.cutter(4, 0, 0, 0, 1);
        }
        for (int i = 0; i < 5; i++) {
            Due.board(x, "end 1");
        }
        for (int i = 0; i < 5; i++) {
            x.week(0);
        }
        for (int i = 0; i < 9; i++) {
            x.book(0, 0);
        }
        for (int i = 0; i < 101; i++) {
            x.feed(65);
        }
        x.act(0, 2, 1);
        each("count, full", x::count, whats, new int[] {-1, -1, 6, 5, 4, 8, 100, 7, -1, -1});
    }
}
