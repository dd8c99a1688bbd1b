/** Promises 35 to 40: acts, the image. */
public final class ActsTest {
    private static final Due DUE = new Due();

    public static void main(String[] args) {
        promise35();
        promise36();
        promise37();
        promise38();
        promise39();
        promise40();
        DUE.end();
    }

    /** One of each KIND, numbered backwards from RIGHTING on: 4, 5, 6, 1, 2, 3. */
    private static CutCrooked six() {
        CutCrooked x = new CutCrooked();
        int[] kinds = {4, 5, 6, 1, 2, 3};
        for (int i = 0; i < 6; i++) {
            x.cutter(kinds[i], i + 3, 0, 0, 5);
        }
        return x;
    }

    private static void act(CutCrooked x, int cutter, int act, int arg, int due, int... bodies) {
        String call = "act(" + cutter + ", " + act + ", " + arg + ")";
        DUE.is(call, x.act(cutter, act, arg), due);
        DUE.is(call + " bodies", x.count(5), bodies.length);
        for (int i = 0; i < bodies.length; i++) {
            DUE.is(call + " body " + i, x.trace(i), bodies[i]);
        }
        DUE.is(call + " no more bodies", x.trace(bodies.length), -1);
    }

    private static void promise35() {
        DUE.part("promise 35");
        CutCrooked x = six();
        act(x, 0, 0, 10, 30, 11, 1);
        act(x, 0, 1, 10, 27, 2, 11, 1);
        act(x, 0, 2, 10, 48 + 6, 41, 3, 2, 11, 1, 11, 1);
        act(x, 1, 0, 10, 10, 51, 1);
        act(x, 1, 1, 10, -6, 21, 2, 51, 1);
        act(x, 1, 2, 10, -12, 3, 21, 2, 51, 1);
        act(x, 2, 0, 10, 12, 1);
        act(x, 2, 1, 10, 12, 61, 2, 1);
        act(x, 2, 2, 10, 24 ^ 7, 31, 3, 61, 2, 1);
        act(x, 3, 0, 10, 33, 11, 1);
        act(x, 3, 2, 10, 54, 3, 2, 11, 1);
        act(x, 4, 0, 10, 14, 1);
        act(x, 4, 1, 10, -7, 21, 2, 1);
        act(x, 4, 2, 10, -14, 3, 21, 2, 1);
        act(x, 5, 1, 10, 7, 2, 1);
        act(x, 5, 2, 10, 9, 31, 3, 2, 1);
        act(x, 3, 0, 1431655766, 5, 11, 1);
        act(x, 5, 0, 2147483647, -2147483644, 1);
        act(x, 0, 2, -2147483648, 6 + 2 * (2147483647 * 3 - 3), 41, 3, 2, 11, 1, 11, 1);
        act(x, 6, 0, 10, 0);
        x.act(0, 0, 1);
        act(x, -1, 0, 10, 0);
        x.act(0, 0, 1);
        act(x, 0, 3, 10, 0);
        x.act(0, 0, 1);
        act(x, 0, -1, 10, 0);
        CutCrooked y = new CutCrooked();
        y.cutter(0, 9, 0, 0, 5);
        act(y, 0, 0, 4, 4, 1);
        act(y, 0, 1, 4, -5, 2, 1);
        act(y, 0, 2, 4, -10, 3, 2, 1);
    }

    private static void promise36() {
        DUE.part("promise 36");
        CutCrooked x = six();
        DUE.is("trace(0)", x.trace(0), -1);
        x.act(0, 2, 0);
        DUE.is("trace(0)", x.trace(0), 41);
        DUE.is("trace(6)", x.trace(6), 1);
        DUE.is("trace(7)", x.trace(7), -1);
        DUE.is("trace(-1)", x.trace(-1), -1);
        DUE.is("trace(20)", x.trace(20), -1);
        DUE.is("trace(MAX)", x.trace(Integer.MAX_VALUE), -1);
        x.act(2, 0, 0);
        DUE.is("the latest act's", x.trace(1), -1);
    }

    private static void promise37() {
        DUE.part("promise 37");
        int[][] of = {{0}, {0, 1}, {0, 2}, {0, 3}, {0, 1, 4}, {0, 2, 5}, {0, 3, 6}};
        for (int kind = 0; kind < 7; kind++) {
            CutCrooked x = new CutCrooked();
            x.cutter(kind, 9 - kind, 0, 0, 5);
            for (int k = 0; k < 7; k++) {
                boolean is = false;
                for (int one : of[kind]) {
                    is |= one == k;
                }
                DUE.is("as(0, " + k + ") of kind " + kind, x.as(0, k), is ? 9 - kind : -6);
            }
            DUE.is("as(0, 7)", x.as(0, 7), -1);
            DUE.is("as(0, -1)", x.as(0, -1), -1);
            DUE.is("as(1, 0)", x.as(1, 0), -1);
            DUE.is("as(-1, 0)", x.as(-1, 0), -1);
        }
    }

    private static void promise38() {
        DUE.part("promise 38");
        CutCrooked x = new CutCrooked();
        DUE.is("image()", x.image(), 0);
        x.cutter(0, 0, 0, 0, 5);
        x.cutter(0, 0, 0, 0, 5);
        DUE.is("image()", x.image(), 2);
        x.cutter(0, 0, 0, 0, 5);
        DUE.is("the newest one", x.undo(), 2);
    }

    private static void promise39() {
        DUE.part("promise 39");
        CutCrooked x = new CutCrooked();
        DUE.is("undo()", x.undo(), -3);
        x.cutter(6, 1, 0, 2, 20);
        x.cutter(0, 1, 2, 3, 20);
        Due.board(x, "thin 5;end 7;slip 3 s>0|u>1");
        x.loaf(400);
        x.cut(1);
        x.right();
        x.cut(1);
        x.cut(0);
        x.row(0, 1, 7);
        x.see(5, 3);
        x.week(5);
        x.book(1, x.would(1, 1));
        x.book(0, 999);
        DUE.is("looked()", x.looked(), 1);
        Due.feed(x, "thin");
        DUE.is("image()", x.image(), 2);
        int[] before = told(x);
        DUE.is("act", x.act(0, 1, 5), 5);
        for (int again = 0; again < 2; again++) {
            change(x);
            DUE.is("undo()", x.undo(), 2);
            int[] behind = told(x);
            for (int i = 0; i < before.length; i++) {
                DUE.is("told " + i, behind[i], before[i]);
            }
            DUE.is("THE TRACE stays", x.count(5), 2);
            DUE.is("THE TRACE stays", x.trace(0), 11);
            DUE.is("row", x.row(0, 1, 7), 7);
            DUE.is("row", x.row(0, 0, 4), 4);
        }
        Due.feed(x, " 9");
        DUE.is("THE TAPE", x.board(), 1);
        DUE.is("THE TAPE", x.told(6), 9);
        x.undo();
        DUE.is("BOARDS", Due.board(x, ";"), -14);
        DUE.is("the BOARD", x.would(1, 4), 5);
        CutCrooked y = new CutCrooked();
        y.image();
        y.cutter(6, 1, 0, 0, 20);
        y.row(0, 0, 9);
        DUE.is("undo()", y.undo(), 0);
        DUE.is("nobody", y.of(0, 0), -10001);
        y.cutter(6, 1, 0, 0, 20);
        DUE.is("a new one's ROW", y.row(0, 0, 9), 4);
    }

    private static int[] told(CutCrooked x) {
        return new int[] {x.told(0), x.told(1), x.told(2), x.told(3), x.told(4), x.told(5), x.told(6), x.told(7),
            x.count(0), x.count(1), x.count(2), x.count(3), x.count(4), x.of(0, 4), x.of(0, 5), x.of(1, 5),
            x.would(0, 4), x.would(1, 4), x.who(), x.rows(0), x.rows(-1), x.looked(), x.on(9, 5), x.on(9, 3)};
    }

    private static void change(CutCrooked x) {
        x.row(0, 0, 0);
        x.row(0, 1, 0);
        x.thick(0, 9);
        x.cutter(1, 1, 1, 1, 1);
        x.cut(0);
        x.cut(2);
        x.turn(false);
        x.turn(true);
        x.board();
        Due.board(x, "pull 9 c<9");
        Due.feed(x, "x");
        x.see(0, 0);
        x.clear();
        x.week(9);
        x.week(9);
        x.book(-1, 0);
        x.book(2, 2);
        x.book(2, 2);
        x.loaf(99);
        x.act(2, 0, 4);
    }

    private static void promise40() {
        DUE.part("promise 40");
        CutCrooked x = new CutCrooked();
        x.cutter(4, 0, 0, 0, 5);
        x.cutter(4, 0, 0, 0, 5);
        x.cutter(4, 0, 0, 0, 5);
        Due.board(x, "thin 3");
        Due.board(x, "thin 3");
        x.week(1);
        for (int i = 0; i < 5; i++) {
            x.book(0, 3);
        }
        Due.feed(x, "thin");
        x.act(0, 2, 1);
        int[] due = {3, 2, 1, 5, 4, 7};
        for (int what = 0; what < 6; what++) {
            DUE.is("count(" + what + ")", x.count(what), due[what]);
        }
        DUE.is("count(6)", x.count(6), -1);
        DUE.is("count(-1)", x.count(-1), -1);
    }
}
