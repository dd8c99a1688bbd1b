/** Promises 1 to 12: boards, cutters, loaves. */
public final class BoardsTest {
    private static final Due DUE = new Due();

    public static void main(String[] args) {
        promise1();
        promise2();
        promise3();
        promise3Faults();
        promise3Tests();
        promise4();
        promise5();
        promise6();
        promise7();
        promise8();
        promise9();
        promise10();
        promise10Kinds();
        promise11();
        promise12();
        DUE.end();
    }

    private static void promise1() {
        DUE.part("promise 1");
        CutCrooked x = new CutCrooked();
        for (int what = 0; what <= 5; what++) {
            DUE.is("count(" + what + ")", x.count(what), 0);
        }
        DUE.is("told(0)", x.told(0), 300);
        DUE.is("told(1)", x.told(1), 300);
        for (int what = 2; what <= 5; what++) {
            DUE.is("told(" + what + ")", x.told(what), 0);
        }
        DUE.is("told(6)", x.told(6), 3);
        DUE.is("told(7)", x.told(7), 10);
        DUE.is("undo()", x.undo(), -3);
        DUE.is("NO", CutCrooked.NO, Long.MIN_VALUE);
        DUE.is("NONE", CutCrooked.NONE, -1);
        DUE.is("BAD", CutCrooked.BAD, -2);
        DUE.is("STATE", CutCrooked.STATE, -3);
        DUE.is("FULL", CutCrooked.FULL, -4);
    }

    private static void promise2() {
        DUE.part("promise 2");
        CutCrooked x = new CutCrooked();
        DUE.is("feed(-1)", x.feed(-1), -2);
        DUE.is("feed(128)", x.feed(128), -2);
        for (int i = 1; i <= 100; i++) {
            DUE.is("feed", x.feed(i == 50 ? 0 : 127), i);
        }
        DUE.is("feed(0) to the full tape", x.feed(0), -4);
        DUE.is("feed(128) to the full tape", x.feed(128), -2);
        DUE.is("count(4)", x.count(4), 100);
        DUE.is("board()", x.board(), -10);
        DUE.is("count(4)", x.count(4), 0);
        DUE.is("feed(0)", x.feed(0), 1);
    }

    private static void promise3() {
        DUE.part("promise 3");
        CutCrooked x = new CutCrooked();
        DUE.is("board 0", Due.board(x, "thin 7"), 0);
        DUE.is("told(6)", x.told(6), 7);
        DUE.is("told(7)", x.told(7), 10);
        DUE.is("count(4)", x.count(4), 0);
        DUE.is("a fault", Due.board(x, "thin 8;"), -17);
        DUE.is("the one that held holds", x.told(6), 7);
        DUE.is("count(4)", x.count(4), 0);
        DUE.is("count(1)", x.count(1), 1);
        String wide = "slip 9 c=1";
        for (int i = 0; i < 9; i++) {
            wide += "&c=1|c=1";
        }
        for (int i = 0; i < 9; i++) {
            DUE.is("faults leave nothing", Due.board(x, wide + ";slip 1 ?"), -100);
        }
        DUE.is("board 1", Due.board(x, "end 0;thin 9;end 99;thin 0"), 1);
        DUE.is("the last thin", x.told(6), 0);
        DUE.is("the last end", x.told(7), 99);
        DUE.is("board 2", Due.board(x, "slip 0 c=0"), 2);
        DUE.is("thin is without again", x.told(6), 3);
        DUE.is("end is without again", x.told(7), 10);
        DUE.is("board 3", Due.board(x, "end 1;end 1;end 1;end 1;end 1;end 1;end 1;end 1;end 1;end 2"), 3);
        DUE.is("ten clauses", x.told(7), 2);
        DUE.is("eleven", Due.board(x, "end 1;end 1;end 1;end 1;end 1;end 1;end 1;end 1;end 1;end 2;end 3"), -69);
        DUE.is("board 4", Due.board(x, "end 4"), 4);
        DUE.is("count(1)", x.count(1), 5);
        Due.feed(x, "x");
        DUE.is("full", x.board(), -4);
        DUE.is("the tape stays", x.count(4), 1);
        DUE.is("told(7)", x.told(7), 4);
    }

    private static void fault(String text, int at) {
        CutCrooked x = new CutCrooked();
        DUE.is("board of '" + text + "'", Due.board(x, text), at < 0 ? 0 : -10 - at);
        DUE.is("count(1)", x.count(1), at < 0 ? 1 : 0);
    }

    private static void promise3Faults() {
        DUE.part("promise 3, faults");
        fault("", 0);
        fault(" ", 0);
        fault("Thin 3", 0);
        fault(";thin 3", 0);
        fault("t", 1);
        fault("thick 1", 3);
        fault("thin", 4);
        fault("thin3", 4);
        fault("thin ", 5);
        fault("thin  3", 5);
        fault("thin 03", 6);
        fault("thin 00", 6);
        fault("thin 10", -1);
        fault("thin 99", -1);
        fault("thin 100", 7);
        fault("thin 3 ", 6);
        fault("thin 3 c=1", 6);
        fault("thin 3,end 2", 6);
        fault("thin 3; end 2", 7);
        fault("thin 3;end 2", -1);
        fault("end -1", 4);
        fault("slip 5", 6);
        fault("slip 5;", 6);
        fault("slip 5 ", 7);
        fault("slip 5  c=1", 7);
        fault("slip 10 c=1", -1);
        fault("slip 5 x=1", 7);
        fault("slip 5 c", 8);
        fault("slip 5 c!1", 8);
        fault("slip 5 c=", 9);
        fault("slip 5 c==1", 9);
        fault("slip 5 c=01", 10);
        fault("slip 5 c=99", -1);
        fault("slip 5 c=123", 11);
        fault("slip 5 c=1 ", 10);
        fault("slip 5 c=1)", 10);
        fault("slip 5 c=1&", 11);
        fault("slip 5 c=1|;", 11);
        fault("slip 5 c=1||c=2", 11);
        fault("slip 5 (c=1", 11);
        fault("slip 5 (c=1;", 11);
        fault("slip 5 ()", 8);
        fault("slip 5 (c=1)c=2", 12);
        fault("slip 5 (c=1))", 12);
        fault("slip 5 !", 8);
        fault("slip 5 !)", 8);
        fault("pull 5 !!!!!c=1", -1);
        fault("pull 5 !!!!!!c=1", 12);
        fault("pull 5 (((((c=1)))))", -1);
        fault("pull 5 ((((((c=1))))))", 12);
        fault("pull 5 !(!(!c=1))", -1);
        fault("pull 5 !(!(!(c=1)))", 12);
        fault("pull 5 !!!!!c=1&!!!!!c=2", -1);
        fault("pull 5 (!!!!c=1&!!!!c=2)|!!!!!k=3", -1);
        fault("pull 5 (!!!!c=1&!!!!!c=2)", 20);
        fault("pull 5 !(!!!!c=1)", 12);
        fault("pull 5 c<1;slip 9 k=6|t>20&u<3;thin 1", -1);
        StringBuilder hundred = new StringBuilder("slip 5 c=1");
        for (int i = 0; i < 22; i++) {
            hundred.append("|c=1");
        }
        fault(hundred + "|", 99);
        fault(hundred + "0", -1);
        fault(hundred.toString(), -1);
    }

    /** Whether E holds for cutter 1, a STRAIGHT one of thick 12, the face at 290, UP -7, after 0 slices. */
    private static void test(String e, boolean due) {
        CutCrooked x = new CutCrooked();
        x.loaf(294);
        x.cutter(0, 0, 0, 0, 1);
        x.cutter(4, 9, 3, 3, 12);
        DUE.is("board", Due.board(x, "slip 7 c=0"), 0);
        DUE.is("cut(0)", x.cut(0) > 0 ? 1 : 0, 1);
        x.turn(false);
        DUE.is("told(1)", x.told(1), 293);
        DUE.is("told(2)", x.told(2), -7);
        DUE.is("board " + e, Due.board(x, "pull 5 " + e), 1);
        DUE.is("would(1, 5) by " + e, x.would(1, 5), due ? 5 : 0);
        DUE.is("board !" + e, Due.board(x, "slip 3 !(" + e + ")"), 2);
        DUE.is("would(1, 4) by !" + e, x.would(1, 4), due ? 0 : 3);
    }

    private static void promise3Tests() {
        DUE.part("promise 3, tests");
        test("c=1", true);
        test("c=9", false);
        test("c<1", false);
        test("c>0", true);
        test("k=4", true);
        test("k=1", false);
        test("k<4", false);
        test("t=12", true);
        test("t>12", false);
        test("t<13", true);
        test("u=7", true);
        test("u=0", false);
        test("l=29", true);
        test("l=28", false);
        test("s=1", true);
        test("s=0", false);
        test("c=1|c=2&c=3", true);
        test("(c=1|c=2)&c=3", false);
        test("c=3&c=2|c=1", true);
        test("!c=1|c=1", true);
        test("!c=1&c=2|k=4", true);
        test("!(c=1&c=2)&k=4", true);
        test("!!c=1", true);
        test("!!!c=1", false);
        test("c=2|c=3|c=1", true);
        test("c=1&k=4&t=11", false);
        test("(c=2|(k=4&(t=12|t=13)))&u=7", true);
        CutCrooked x = new CutCrooked();
        x.cutter(0, 0, 1, 1, 1);
        Due.board(x, "slip 20 s=0;slip 3 c=0;slip 50 c=1;pull 2 s=0;pull 90 s=0;pull 1 s<9");
        DUE.is("all slips that hold", x.would(0, 4), 24);
        DUE.is("all pulls that hold", x.would(0, 5), 94);
        for (int i = 0; i < 10; i++) {
            x.cut(0);
        }
        DUE.is("SLICES modulo 10", x.would(0, 4), 24);
        Due.board(x, "slip 9 l=28;slip 30 t=5");
        x.thick(0, 5);
        x.right();
        DUE.is("told(1)", x.told(1), 285);
        DUE.is("AT by 10 is cut", x.would(0, 4), 40);
    }

    private static void promise4() {
        DUE.part("promise 4");
        CutCrooked x = new CutCrooked();
        DUE.is("kind -1", x.cutter(-1, 10, 0, 0, 1), -1);
        DUE.is("kind 7", x.cutter(7, 0, 0, 0, 1), -1);
        DUE.is("v -1", x.cutter(0, -1, 0, 0, 1), -2);
        DUE.is("v 10", x.cutter(0, 10, 0, 0, 1), -2);
        DUE.is("u -10", x.cutter(0, 0, -10, 0, 1), -2);
        DUE.is("u 10", x.cutter(0, 0, 10, 0, 1), -2);
        DUE.is("s -10", x.cutter(0, 0, 0, -10, 1), -2);
        DUE.is("s 10", x.cutter(0, 0, 0, 10, 1), -2);
        DUE.is("thick 0", x.cutter(0, 0, 0, 0, 0), -2);
        DUE.is("thick 41", x.cutter(0, 0, 0, 0, 41), -2);
        DUE.is("count(0)", x.count(0), 0);
        for (int i = 0; i < 6; i++) {
            DUE.is("cutter", x.cutter(i + 1, 9, i % 2 == 0 ? 9 : -9, i % 2 == 0 ? -9 : 9, i == 0 ? 1 : 40), i);
        }
        DUE.is("full", x.cutter(0, 0, 0, 0, 1), -4);
        DUE.is("NONE ahead of FULL", x.cutter(7, 0, 0, 0, 1), -1);
        DUE.is("BAD ahead of FULL", x.cutter(0, 0, 0, 0, 0), -2);
        DUE.is("count(0)", x.count(0), 6);
    }

    private static void promise5() {
        DUE.part("promise 5");
        CutCrooked x = new CutCrooked();
        x.cutter(6, 8, -9, 7, 11);
        int[] due = {6, 8, -9, 7, 11, 0};
        for (int what = 0; what < 6; what++) {
            DUE.is("of(0, " + what + ")", x.of(0, what), due[what]);
        }
        DUE.is("cut(0)", x.cut(0), 44);
        DUE.is("cut(0)", x.cut(0), 44);
        DUE.is("of(0, 5)", x.of(0, 5), 88);
        DUE.is("of(0, 6)", x.of(0, 6), -10001);
        DUE.is("of(0, -1)", x.of(0, -1), -10001);
        DUE.is("of(1, 0)", x.of(1, 0), -10001);
        DUE.is("of(-1, 0)", x.of(-1, 0), -10001);
        for (int kind = 1; kind < 6; kind++) {
            x.cutter(kind, 0, 0, 0, 1);
            DUE.is("of kind", x.of(kind, 0), kind);
        }
        CutCrooked y = new CutCrooked();
        y.cutter(0, 0, 0, 0, 1);
        DUE.is("of kind", y.of(0, 0), 0);
    }

    private static void promise6() {
        DUE.part("promise 6");
        CutCrooked x = new CutCrooked();
        x.cutter(0, 0, 0, 0, 12);
        DUE.is("thick(0, 40)", x.thick(0, 40), 12);
        DUE.is("thick(0, 1)", x.thick(0, 1), 40);
        DUE.is("thick(0, 0)", x.thick(0, 0), -2);
        DUE.is("thick(0, 41)", x.thick(0, 41), -2);
        DUE.is("thick(1, 41)", x.thick(1, 41), -1);
        DUE.is("thick(-1, 5)", x.thick(-1, 5), -1);
        DUE.is("of(0, 4)", x.of(0, 4), 1);
        DUE.is("cut(0)", x.cut(0), 4);
    }

    private static void promise7() {
        DUE.part("promise 7");
        CutCrooked x = new CutCrooked();
        x.cutter(6, 0, 9, 0, 5);
        x.cutter(3, 0, 0, 0, 5);
        for (int k = 0; k < 4; k++) {
            DUE.is("row", x.row(0, k, 9 - k), 4);
            DUE.is("row", x.row(0, k, 9 - 3 * k), 9 - k);
        }
        DUE.is("row(0, 4, 0)", x.row(0, 4, 0), -1);
        DUE.is("row(0, -1, 0)", x.row(0, -1, 0), -1);
        DUE.is("row(2, 0, 0)", x.row(2, 0, 0), -1);
        DUE.is("row(0, 0, 10)", x.row(0, 0, 10), -2);
        DUE.is("row(0, 0, -1)", x.row(0, 0, -1), -2);
        DUE.is("row(1, 0, 0)", x.row(1, 0, 0), -3);
        DUE.is("row(1, 4, 0)", x.row(1, 4, 0), -1);
        DUE.is("row(1, 0, 10)", x.row(1, 0, 10), -2);
        int[] up = {5, 7, 6, 2, 7};
        for (int i = 0; i < 5; i++) {
            x.cut(0);
            DUE.is("UP by the row, " + i, x.told(2), up[i]);
        }
    }

    private static void promise8() {
        DUE.part("promise 8");
        CutCrooked x = new CutCrooked();
        x.cutter(0, 0, 3, -2, 20);
        x.cut(0);
        x.right();
        x.cut(0);
        DUE.is("loaf(39)", x.loaf(39), -2);
        DUE.is("loaf(1000)", x.loaf(1000), -2);
        DUE.is("told(4)", x.told(4), 2);
        DUE.is("told(5)", x.told(5), 20);
        DUE.is("loaf(999)", x.loaf(999), 300);
        DUE.is("told(0)", x.told(0), 999);
        DUE.is("told(1)", x.told(1), 999);
        for (int what = 2; what <= 5; what++) {
            DUE.is("told(" + what + ")", x.told(what), 0);
        }
        DUE.is("EATEN stays", x.of(0, 5), 160);
        DUE.is("loaf(40)", x.loaf(40), 999);
    }

    private static void promise9() {
        DUE.part("promise 9");
        CutCrooked x = new CutCrooked();
        x.cutter(0, 0, 9, -4, 20);
        x.cut(0);
        x.right();
        x.cut(0);
        int[] due = {300, 247, 9, -4, 2, 52, 3, 10};
        for (int what = 0; what < 8; what++) {
            DUE.is("told(" + what + ")", x.told(what), due[what]);
        }
        int[] corners = {260, 252, 242, 234};
        for (int k = 0; k < 4; k++) {
            DUE.is("told(1" + k + ")", x.told(10 + k), corners[k]);
        }
        for (int what : new int[] {-1, 8, 9, 14, Integer.MAX_VALUE, Integer.MIN_VALUE}) {
            DUE.is("told(" + what + ")", x.told(what), -10001);
        }
    }

    private static void promise10() {
        DUE.part("promise 10");
        CutCrooked x = new CutCrooked();
        x.cutter(0, 0, 9, 9, 4);
        DUE.is("cut(1)", x.cut(1), -1);
        DUE.is("cut(-1)", x.cut(-1), -1);
        // The corners go from 300 each to 296, 314, 278, 296: 4, none, 22, 4.
        DUE.is("a corner counts 0 at least", x.cut(0), 30);
        DUE.is("of(0, 5)", x.of(0, 5), 30);
        DUE.is("told(4)", x.told(4), 1);
        x.loaf(40);
        x.thick(0, 12);
        DUE.is("the least corner is just END", x.cut(0), 54);
        DUE.is("told(12)", x.told(12), 10);
        DUE.is("it can not be cut", x.cut(0), -3);
        DUE.is("told(1)", x.told(1), 28);
        DUE.is("of(0, 5)", x.of(0, 5), 84);
        x.loaf(40);
        x.thick(0, 13);
        DUE.is("below END by one", x.cut(0), -3);
        DUE.is("told(4)", x.told(4), 0);
        CutCrooked y = new CutCrooked();
        y.cutter(4, 0, 0, 0, 5);
        y.cutter(5, 0, 0, 0, 5);
        y.cutter(0, 0, 9, 9, 20);
        y.loaf(49);
        DUE.is("cut(2)", y.cut(2) > 0 ? 1 : 0, 1);
        Due.board(y, "end 7");
        DUE.is("told(12)", y.told(12), 11);
        DUE.is("RIGHTING is not done either", y.cut(0), -3);
        DUE.is("told(1)", y.told(1), 29);
        DUE.is("told(2)", y.told(2), 9);
        DUE.is("told(5)", y.told(5), 0);
        Due.board(y, "end 20");
        DUE.is("OVER is not done either", y.cut(1), -3);
        DUE.is("told(2)", y.told(2), 9);
        DUE.is("told(4)", y.told(4), 1);
    }

    /** Kind by kind from UP 9, SIDE -7 at 280: U 3, S 5, thick 30. */
    private static void promise10Kinds() {
        DUE.part("promise 10, kinds");
        int[] up = {3, 0, 7, 12, 0, -1, 14};
        int[] side = {5, 0, 2, -2, 0, 2, -2};
        int[] at = {250, 250, 250, 250, 234, 250, 250};
        for (int kind = 0; kind < 7; kind++) {
            CutCrooked x = new CutCrooked();
            x.cutter(0, 0, 9, -7, 20);
            x.cutter(kind, 0, 3, 5, 30);
            x.row(1, 1, 9);
            x.row(1, 0, 0);
            x.cut(0);
            int weight = x.cut(1);
            DUE.is("UP of kind " + kind, x.told(2), up[kind]);
            DUE.is("SIDE of kind " + kind, x.told(3), side[kind]);
            DUE.is("AT of kind " + kind, x.told(1), at[kind]);
            DUE.is("WASTE of kind " + kind, x.told(5), kind == 4 ? 64 : 0);
            DUE.is("WEIGHT of kind " + kind, weight, 120);
        }
        CutCrooked x = new CutCrooked();
        x.loaf(999);
        x.cutter(3, 0, 9, -9, 1);
        for (int i = 0; i < 12; i++) {
            x.cut(0);
        }
        DUE.is("UP is held", x.told(2), 99);
        DUE.is("SIDE is held", x.told(3), -99);
        x.cutter(5, 0, 0, 0, 40);
        // Turned over the corners are 987, 789, 1185, 987; then 947, 849, 1045, 947, as the half of -99 is -49.
        DUE.is("OVER turns before it cuts", x.cut(1), 220);
        DUE.is("UP", x.told(2), -49);
        DUE.is("SIDE", x.told(3), -49);
        Due.board(x, "slip 5 u=49;pull 5 u=0");
        x.cutter(4, 0, 9, 9, 1);
        DUE.is("E by how all is as the CUT begins", x.cut(2), 12);
        DUE.is("UP", x.told(2), 5);
        DUE.is("SIDE", x.told(3), 0);
    }

    private static void promise11() {
        DUE.part("promise 11");
        CutCrooked x = new CutCrooked();
        DUE.is("right() of a straight one", x.right(), 0);
        DUE.is("told(1)", x.told(1), 300);
        x.cutter(0, 0, 9, -4, 20);
        x.cut(0);
        DUE.is("right()", x.right(), 52);
        DUE.is("told(1)", x.told(1), 267);
        DUE.is("told(2)", x.told(2), 0);
        DUE.is("told(3)", x.told(3), 0);
        DUE.is("told(5)", x.told(5), 52);
        x.cut(0);
        x.right();
        DUE.is("told(5)", x.told(5), 104);
        x.loaf(53);
        x.cut(0);
        Due.board(x, "end 20");
        DUE.is("just END", x.right(), 52);
        DUE.is("told(1)", x.told(1), 20);
        Due.board(x, "end 21");
        DUE.is("below END", x.right(), -3);
        DUE.is("told(5)", x.told(5), 52);
    }

    private static void promise12() {
        DUE.part("promise 12");
        CutCrooked x = new CutCrooked();
        x.cutter(0, 0, 9, -4, 20);
        x.cut(0);
        DUE.is("turn(false)", x.turn(false), -9);
        DUE.is("told(2)", x.told(2), -9);
        DUE.is("told(3)", x.told(3), -4);
        DUE.is("turn(true)", x.turn(true), 4);
        DUE.is("told(3)", x.told(3), 4);
        DUE.is("turn(false)", x.turn(false), 9);
        DUE.is("told(4)", x.told(4), 1);
        DUE.is("told(1)", x.told(1), 280);
    }
}
