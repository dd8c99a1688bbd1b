/** Promises 26 to 34: seen, rows, odds, books. */
public final class SeenTest {
    private static final Due DUE = new Due();

    public static void main(String[] args) {
        promise26();
        promise27();
        promise28();
        promise29();
        promise30();
        promise31();
        promise32();
        promise33();
        promise34();
        DUE.end();
    }

    private static void promise26() {
        DUE.part("promise 26");
        CutCrooked x = new CutCrooked();
        x.cutter(1, 0, 0, 0, 9);
        DUE.is("0 both at first", x.who(), 1);
        DUE.is("see(99, -99)", x.see(99, -99), 1);
        DUE.is("who()", x.who(), 0);
        DUE.is("see(-99, 99)", x.see(-99, 99), 1);
        DUE.is("see(0, 0)", x.see(0, 0), 1);
        DUE.is("see(100, 0)", x.see(100, 0), -2);
        DUE.is("see(-100, 0)", x.see(-100, 0), -2);
        DUE.is("see(1, 100)", x.see(1, 100), -2);
        DUE.is("see(1, -100)", x.see(1, -100), -2);
        DUE.is("a refused one changes nothing", x.who(), 1);
    }

    private static void promise27() {
        DUE.part("promise 27");
        CutCrooked x = new CutCrooked();
        DUE.is("nobody", x.who(), 0);
        x.cutter(0, 0, 3, -2, 9);
        x.cutter(0, 0, 3, 2, 9);
        x.cutter(3, 0, 3, -2, 9);
        x.cutter(2, 0, 2, -1, 9);
        x.cutter(6, 0, 0, -2, 9);
        x.cutter(0, 0, 3, -2, 40);
        x.see(3, -2);
        DUE.is("who()", x.who(), 1 + 4 + 32);
        x.row(4, 0, 7);
        DUE.is("who()", x.who(), 1 + 4 + 16 + 32);
        x.cut(0);
        DUE.is("from how it lies", x.who(), 1 + 8 + 32);
        x.loaf(40);
        DUE.is("who can not cut is not among them", x.who(), 1 + 4 + 16);
    }

    private static void promise28() {
        DUE.part("promise 28");
        CutCrooked x = new CutCrooked();
        DUE.is("week(100)", x.week(100), -2);
        DUE.is("week(-100)", x.week(-100), -2);
        DUE.is("week(99)", x.week(99), 1);
        DUE.is("week(-99)", x.week(-99), 2);
        DUE.is("week(0)", x.week(0), 3);
        DUE.is("count(2)", x.count(2), 3);
        DUE.is("week(0)", x.week(0), 4);
        DUE.is("week(0)", x.week(0), -4);
        DUE.is("BAD ahead of FULL", x.week(100), -2);
        DUE.is("count(2)", x.count(2), 4);
    }

    private static void promise29() {
        DUE.part("promise 29");
        CutCrooked x = new CutCrooked();
        DUE.is("clear()", x.clear(), 0);
        x.week(1);
        x.week(1);
        x.week(1);
        DUE.is("clear()", x.clear(), 3);
        DUE.is("count(2)", x.count(2), 0);
        DUE.is("rows(-1)", x.rows(-1), 1);
        DUE.is("week(5)", x.week(5), 1);
    }

    private static void promise30() {
        DUE.part("promise 30");
        CutCrooked x = new CutCrooked();
        DUE.is("rows(-1)", x.rows(-1), 1);
        for (int k = 0; k < 4; k++) {
            DUE.is("rows(" + k + ")", x.rows(k), -5);
        }
        DUE.is("rows(4)", x.rows(4), -1);
        DUE.is("rows(-2)", x.rows(-2), -1);
        x.week(0);
        DUE.is("nobody", x.rows(-1), 0);
        DUE.is("nobody", x.rows(0), -5);
        x.cutter(0, 0, 3, 9, 5);
        x.cutter(3, 0, 3, 0, 5);
        x.cutter(1, 0, 0, 0, 5);
        x.clear();
        x.week(3);
        x.week(6);
        x.week(0);
        x.week(3);
        // 0 or 1; then 1; then 2; then 0 or 1.
        DUE.is("rows(-1)", x.rows(-1), 4);
        int[] first = {0, 1, 2, 0};
        for (int k = 0; k < 4; k++) {
            DUE.is("rows(" + k + ")", x.rows(k), first[k]);
        }
        x.cut(1);
        DUE.is("from now", x.rows(-1), 2);
        x.clear();
        x.week(6);
        DUE.is("rows(-1)", x.rows(-1), 1);
        DUE.is("rows(0)", x.rows(0), 1);
        DUE.is("rows(1)", x.rows(1), -5);
        x.week(4);
        DUE.is("none", x.rows(-1), 0);
        DUE.is("none", x.rows(0), -5);
        x.clear();
        x.week(0);
        x.week(0);
        x.loaf(55);
        x.thick(2, 23);
        DUE.is("each can be cut", x.rows(-1), 0);
        x.loaf(56);
        DUE.is("each can be cut", x.rows(-1), 1);
        DUE.is("each any", x.rows(1), 2);
        CutCrooked y = new CutCrooked();
        for (int i = 0; i < 6; i++) {
            y.cutter(1, 0, 0, 0, 5);
        }
        for (int i = 0; i < 4; i++) {
            y.week(0);
        }
        DUE.is("all rows", y.rows(-1), 1296);
        DUE.is("the first", y.rows(3), 0);
    }

    private static void promise31() {
        DUE.part("promise 31");
        CutCrooked x = new CutCrooked();
        DUE.is("nobody", x.odds(1, 0), CutCrooked.NO);
        x.cutter(1, 0, 0, 0, 5);
        x.cutter(0, 0, 3, 0, 5);
        // 0 leaves UP 0, 1 leaves 3: only 0 then 0, 1 then 1 do not lose more than 2.
        DUE.is("odds(1, 0)", x.odds(1, 0), 1);
        DUE.is("odds(1, 1)", x.odds(1, 1), 2);
        DUE.is("odds(2, 0)", x.odds(2, 0), 1);
        DUE.is("odds(2, 1)", x.odds(2, 1), 4);
        DUE.is("odds(3, 0)", x.odds(3, 0), 1);
        DUE.is("odds(3, 1)", x.odds(3, 1), 8);
        x.cutter(1, 0, 0, 0, 2);
        x.cutter(1, 0, 0, 0, 3);
        x.cutter(4, 0, 0, 0, 4);
        x.cutter(0, 0, 3, 0, 6);
        // 0, 3, 4 and 5 do; behind 5 1 does, 5 does, RIGHTING 4 does.
        DUE.is("odds(1, 0)", x.odds(1, 0), 2);
        DUE.is("odds(1, 1)", x.odds(1, 1), 3);
        DUE.is("odds(2, 0)", x.odds(2, 0), 5);
        DUE.is("odds(2, 1)", x.odds(2, 1), 12);
        DUE.is("odds(0, 0)", x.odds(0, 0), CutCrooked.NO);
        DUE.is("odds(4, 0)", x.odds(4, 0), CutCrooked.NO);
        DUE.is("odds(1, 2)", x.odds(1, 2), CutCrooked.NO);
        DUE.is("odds(1, -1)", x.odds(1, -1), CutCrooked.NO);
        Due.board(x, "thin 40");
        DUE.is("none: above", x.odds(3, 0), 0);
        DUE.is("none: below", x.odds(3, 1), 1);
        Due.board(x, "thin 0");
        DUE.is("all: above", x.odds(3, 0), 1);
        DUE.is("all: below", x.odds(3, 1), 1);
        CutCrooked y = new CutCrooked();
        y.cutter(1, 0, 0, 0, 30);
        y.cutter(1, 0, 0, 0, 10);
        y.cutter(1, 0, 0, 0, 31);
        y.loaf(40);
        DUE.is("all can be made", y.odds(1, 0), 2);
        DUE.is("all can be made", y.odds(1, 1), 3);
        DUE.is("all can be made", y.odds(2, 0), 1);
        DUE.is("all can be made", y.odds(2, 1), 9);
    }

    private static void promise32() {
        DUE.part("promise 32");
        CutCrooked x = new CutCrooked();
        DUE.is("nobody", x.mean(0), CutCrooked.NO);
        x.cutter(1, 0, 0, 0, 20);
        DUE.is("mean(0)", x.mean(0), 80);
        DUE.is("mean(1)", x.mean(1), 1);
        x.cutter(1, 0, 0, 0, 31);
        x.cutter(0, 0, 9, 9, 4);
        // 80 and 124 and 30.
        DUE.is("mean(0)", x.mean(0), 78);
        DUE.is("mean(1)", x.mean(1), 1);
        x.cutter(1, 0, 0, 0, 1);
        DUE.is("mean(0)", x.mean(0), 119);
        DUE.is("mean(1)", x.mean(1), 2);
        x.loaf(40);
        DUE.is("0, if it can not be cut", x.mean(0), 57);
        DUE.is("0, if it can not be cut", x.mean(1), 2);
        Due.board(x, "end 99");
        DUE.is("nobody can", x.mean(0), 0);
        DUE.is("nobody can", x.mean(1), 1);
        DUE.is("mean(2)", x.mean(2), CutCrooked.NO);
        DUE.is("mean(-1)", x.mean(-1), CutCrooked.NO);
    }

    private static void promise33() {
        DUE.part("promise 33");
        CutCrooked x = new CutCrooked();
        DUE.is("book(0, 0)", x.book(0, 0), -1);
        DUE.is("book(0, 1000)", x.book(0, 1000), -1);
        x.cutter(0, 0, 0, 0, 1);
        DUE.is("book(0, 1000)", x.book(0, 1000), -2);
        DUE.is("book(0, -1)", x.book(0, -1), -2);
        DUE.is("book(-2, 0)", x.book(-2, 0), -1);
        DUE.is("book(1, 0)", x.book(1, 0), -1);
        for (int i = 1; i <= 8; i++) {
            DUE.is("book(0, 999)", x.book(0, i % 2 == 0 ? 999 : 0), i);
        }
        DUE.is("full", x.book(0, 0), -4);
        DUE.is("BAD ahead of FULL", x.book(0, 1000), -2);
        DUE.is("NONE ahead of BAD", x.book(6, 1000), -1);
        DUE.is("count(3)", x.count(3), 8);
        DUE.is("book(-1, 5000)", x.book(-1, 5000), 0);
        DUE.is("count(3)", x.count(3), 0);
        DUE.is("book(-1, -1)", x.book(-1, -1), 0);
    }

    private static void promise34() {
        DUE.part("promise 34");
        CutCrooked x = new CutCrooked();
        DUE.is("an empty BOOK", x.looked(), -5);
        x.cutter(0, 0, 3, 0, 5);
        x.cutter(1, 0, 0, 0, 5);
        x.book(0, 2);
        x.book(0, 5);
        x.book(1, 2);
        x.book(1, 5);
        DUE.is("all are so", x.looked(), -5);
        x.book(0, 5);
        x.book(0, 4);
        DUE.is("the first that is not so", x.looked(), 4);
        x.cut(0);
        DUE.is("from how it lies", x.looked(), 0);
        x.book(-1, 0);
        x.loaf(40);
        for (int i = 0; i < 7; i++) {
            x.book(1, 5);
        }
        DUE.is("it can not be cut", x.looked(), 6);
        x.loaf(45);
        DUE.is("it can be", x.looked(), -5);
    }
}
