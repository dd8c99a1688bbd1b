/** Promises 13 to 25: slices to come. */
public final class SlicesTest {
    private static final Due DUE = new Due();

    public static void main(String[] args) {
        promise13();
        promise14();
        promise15();
        promise16();
        promise17();
        promise18();
        promise19();
        promise20();
        promise21();
        promise22();
        promise23();
        promise24();
        promise25();
        nothingChanges();
        DUE.end();
    }

    /** A CUTTER of U 9, S -4 and a STRAIGHT one, both of thick 20. */
    private static CutCrooked two() {
        CutCrooked x = new CutCrooked();
        x.cutter(0, 1, 9, -4, 20);
        x.cutter(1, 2, 0, 0, 20);
        return x;
    }

    private static void promise13() {
        DUE.part("promise 13");
        CutCrooked x = two();
        x.cutter(4, 3, 0, 0, 20);
        // Corners from 300 each to 293, 285, 275, 267.
        int[] due = {80, 7, 33, 280, 9, -4, 0};
        for (int what = 0; what < 7; what++) {
            DUE.is("would(0, " + what + ")", x.would(0, what), due[what]);
        }
        x.cut(0);
        int[] righting = {80, 20, 20, 247, 0, 0, 52};
        int[] straight = {80, 7, 33, 260, 0, 0, 0};
        for (int what = 0; what < 7; what++) {
            DUE.is("would(2, " + what + ")", x.would(2, what), righting[what]);
            DUE.is("would(1, " + what + ")", x.would(1, what), straight[what]);
        }
        x.right();
        x.cut(0);
        DUE.is("WASTE more alone", x.would(2, 6), 52);
        DUE.is("would(3, 0)", x.would(3, 0), -10001);
        DUE.is("would(-1, 0)", x.would(-1, 0), -10001);
        DUE.is("would(0, 7)", x.would(0, 7), -10001);
        DUE.is("would(0, -1)", x.would(0, -1), -10001);
        x.loaf(40);
        x.thick(0, 18);
        for (int what = 0; what < 7; what++) {
            DUE.is("would(0, " + what + ")", x.would(0, what), -10005);
        }
        DUE.is("would(0, 7)", x.would(0, 7), -10001);
    }

    private static void promise14() {
        DUE.part("promise 14");
        CutCrooked x = two();
        x.cutter(4, 3, 0, 0, 20);
        x.cut(0);
        x.right();
        x.cut(0);
        // From 247 on: 0 cuts at 227 as the face lay, 1 straightens to 207, 2 to 187, 0 to 167.
        int[] due = {167, 9, -4, 0, 4, 4};
        for (int what = 0; what < 6; what++) {
            DUE.is("on(4, " + what + ")", x.on(4, what), due[what]);
        }
        DUE.is("on(4, 10)", x.on(4, 10), 160);
        DUE.is("on(4, 11)", x.on(4, 11), 80);
        DUE.is("on(4, 12)", x.on(4, 12), 80);
        DUE.is("on(4, 13)", x.on(4, 13), -10001);
        DUE.is("on(0, 0)", x.on(0, 0), 247);
        DUE.is("on(0, 1)", x.on(0, 1), 9);
        DUE.is("on(0, 4)", x.on(0, 4), 0);
        DUE.is("on(40, 4)", x.on(40, 4), 11);
        DUE.is("on(40, 0)", x.on(40, 0), 27);
        DUE.is("on(40, 3)", x.on(40, 3), 0);
        x.thick(1, 7);
        DUE.is("GOOD by just THIN", x.on(2, 5), 1);
        Due.board(x, "thin 0");
        DUE.is("all are GOOD", x.on(2, 5), 2);
        for (int what : new int[] {-1, 6, 9, 16, Integer.MIN_VALUE, Integer.MAX_VALUE}) {
            DUE.is("on(41, " + what + ")", x.on(41, what), -10001);
        }
        DUE.is("on(41, 0)", x.on(41, 0), -10002);
        DUE.is("on(-1, 0)", x.on(-1, 0), -10002);
        CutCrooked y = new CutCrooked();
        y.cutter(0, 0, 5, 0, 10);
        y.cutter(4, 0, 0, 0, 10);
        y.cut(0);
        DUE.is("WASTE more by RIGHTING", y.on(4, 3), 40);
        DUE.is("nobody", new CutCrooked().on(40, 0), 300);
        DUE.is("nobody", new CutCrooked().on(40, 10), -10001);
    }

    private static void promise15() {
        DUE.part("promise 15");
        CutCrooked x = two();
        DUE.is("toasted(2, 32)", x.toasted(2, 32), 0);
        DUE.is("toasted(2, 33)", x.toasted(2, 33), 2);
        x.thick(1, 21);
        DUE.is("toasted(2, 33)", x.toasted(2, 33), 1);
        DUE.is("toasted(40, 99)", x.toasted(40, 99), 14);
        DUE.is("toasted(0, 99)", x.toasted(0, 99), 0);
        DUE.is("toasted(0, 0)", x.toasted(0, 0), 0);
        CutCrooked y = new CutCrooked();
        y.cutter(3, 0, 0, 0, 1);
        Due.board(y, "slip 99 s=0");
        DUE.is("MOST of 100", y.toasted(1, 99), 0);
        DUE.is("MOST of 100, then of 1", y.toasted(2, 99), 1);
        DUE.is("toasted(41, 0)", x.toasted(41, 0), -2);
        DUE.is("toasted(-1, 0)", x.toasted(-1, 0), -2);
        DUE.is("toasted(0, 100)", x.toasted(0, 100), -2);
        DUE.is("toasted(0, -1)", x.toasted(0, -1), -2);
    }

    private static void promise16() {
        DUE.part("promise 16");
        DUE.is("nobody", new CutCrooked().lasts(), 0);
        CutCrooked x = new CutCrooked();
        x.cutter(1, 0, 0, 0, 20);
        DUE.is("lasts()", x.lasts(), 14);
        x.cutter(1, 0, 0, 0, 40);
        DUE.is("lasts()", x.lasts(), 9);
        x.thick(0, 1);
        x.thick(1, 1);
        DUE.is("200 at most", x.lasts(), 200);
        x.loaf(209);
        DUE.is("lasts()", x.lasts(), 199);
        x.cut(0);
        x.cut(0);
        DUE.is("from now", x.lasts(), 197);
        x.loaf(999);
        DUE.is("200 at most", x.lasts(), 200);
    }

    private static void promise17() {
        DUE.part("promise 17");
        DUE.is("nobody", new CutCrooked().order(-1), 0);
        DUE.is("nobody", new CutCrooked().order(0), -5);
        CutCrooked x = two();
        // 0 then 1: 26 and 26; 1 then 0: 0 and 26.
        DUE.is("order(-1)", x.order(-1), 26);
        DUE.is("order(0)", x.order(0), 1);
        DUE.is("order(1)", x.order(1), 0);
        DUE.is("order(2)", x.order(2), -5);
        DUE.is("order(4)", x.order(4), -5);
        DUE.is("order(5)", x.order(5), -1);
        DUE.is("order(-2)", x.order(-2), -1);
        x.cutter(0, 0, 9, -4, 20);
        // 1, 0, 2 and 1, 2, 0 alike: the first as a row.
        DUE.is("order(-1)", x.order(-1), 26);
        DUE.is("order(0)", x.order(0), 1);
        DUE.is("order(1)", x.order(1), 0);
        DUE.is("order(2)", x.order(2), 2);
        x.loaf(70);
        DUE.is("just END", x.order(-1), 52);
        DUE.is("just END", x.order(1), 2);
        x.loaf(69);
        DUE.is("by none all are cut", x.order(-1), -5);
        DUE.is("by none all are cut", x.order(0), -5);
        x.cutter(1, 0, 0, 0, 1);
        x.cutter(1, 0, 0, 0, 1);
        x.loaf(300);
        DUE.is("five", x.order(4), 2);
        x.cutter(1, 0, 0, 0, 1);
        DUE.is("six", x.order(-1), -9);
        DUE.is("six", x.order(0), -9);
        DUE.is("six", x.order(5), -1);
        CutCrooked y = two();
        y.loaf(62);
        DUE.is("the least sum is not all cut", y.order(0), 0);
        DUE.is("the least sum is not all cut", y.order(-1), 52);
    }

    private static void promise18() {
        DUE.part("promise 18");
        DUE.is("nobody", new CutCrooked().cancel(), -5);
        CutCrooked x = new CutCrooked();
        x.cutter(3, 0, 5, 0, 20);
        DUE.is("one twice", x.cancel(), 0);
        x.cutter(3, 0, 0, -5, 20);
        x.cutter(3, 0, -5, 1, 20);
        DUE.is("cancel()", x.cancel(), 2);
        x.cut(2);
        DUE.is("cancel() from how it lies", x.cancel(), 1);
        x.cutter(1, 0, 0, 0, 20);
        DUE.is("cancel()", x.cancel(), 3);
        x.loaf(49);
        x.thick(0, 39);
        x.thick(1, 39);
        x.thick(2, 39);
        x.thick(3, 20);
        DUE.is("both being cut", x.cancel(), -5);
        x.thick(3, 19);
        DUE.is("both being cut", x.cancel(), 33);
    }

    private static void promise19() {
        DUE.part("promise 19");
        CutCrooked x = two();
        DUE.is("enough(0)", x.enough(0), 16);
        DUE.is("enough(1)", x.enough(1), 3);
        x.thick(0, 40);
        DUE.is("its own does not count", x.enough(0), 16);
        Due.board(x, "thin 0");
        DUE.is("enough(0)", x.enough(0), 1);
        Due.board(x, "thin 40");
        DUE.is("enough(1)", x.enough(1), 40);
        DUE.is("enough(0)", x.enough(0), -5);
        Due.board(x, "thin 20;end 21");
        x.loaf(40);
        DUE.is("it can not be cut", x.enough(1), -5);
        Due.board(x, "thin 20;end 20");
        DUE.is("enough(1)", x.enough(1), 20);
        Due.board(x, "slip 5 t<10");
        DUE.is("t is the THICK it is cut with", x.enough(1), 8);
        DUE.is("of(1, 4)", x.of(1, 4), 20);
        DUE.is("enough(2)", x.enough(2), -1);
        DUE.is("enough(-1)", x.enough(-1), -1);
    }

    private static void promise20() {
        DUE.part("promise 20");
        CutCrooked x = new CutCrooked();
        DUE.is("nobody", x.when(5, 0), -5);
        x.cutter(3, 0, 1, 0, 5);
        DUE.is("all are GOOD", x.when(20, 0), -5);
        DUE.is("all are GOOD", x.when(20, 1), -5);
        x.cutter(0, 0, 9, 0, 9);
        x.loaf(300);
        // 1 goes from UP 1 to 9: GOOD would want 12, but from 0 to 9 it has none at all.
        CutCrooked y = new CutCrooked();
        y.cutter(3, 0, -8, 0, 12);
        y.cutter(1, 0, 0, 0, 12);
        y.cutter(2, 0, 2, 0, 12);
        Due.board(y, "thin 10;slip 5 s=3");
        // UP -8, 0, 2, -1 (slip), 0, 2, -6 ..: the slices' changes 8, 8, 2, 3, 1, 2, 8.
        DUE.is("on(7, 5)", y.on(7, 5), 3);
        // Put right ahead of CUT 1 it is GOOD too; ahead of CUT 0 nothing changes.
        DUE.is("when(7, 0)", y.when(7, 0), 1);
        DUE.is("when(7, 1)", y.when(7, 1), 4);
        DUE.is("when(1, 0)", y.when(1, 0), -5);
        DUE.is("when(2, 0)", y.when(2, 0), 1);
        DUE.is("when(2, 1)", y.when(2, 1), 1);
        y.cut(0);
        Due.board(y, "thin 10;end 99");
        y.loaf(120);
        DUE.is("when(2, 0)", y.when(2, 0), -5);
        Due.board(y, "thin 10");
        // From 120 the first is at 108 with UP -8: right makes it 100.
        DUE.is("when(2, 0)", y.when(2, 0), 1);
        CutCrooked v = new CutCrooked();
        v.cutter(0, 0, 9, 0, 12);
        v.cutter(1, 0, 0, 0, 12);
        v.cutter(0, 0, 9, 0, 12);
        v.cutter(1, 0, 0, 0, 12);
        Due.board(v, "thin 4");
        // Ahead of CUT 1 it makes that one GOOD, ahead of CUT 3 that one.
        DUE.is("of several the least", v.when(4, 0), 1);
        DUE.is("of several the least", v.when(4, 1), 1);
        CutCrooked z = new CutCrooked();
        z.cutter(1, 0, 0, 0, 12);
        z.cutter(0, 0, 9, 0, 20);
        z.loaf(80);
        z.cut(1);
        Due.board(z, "thin 10;end 39");
        DUE.is("k 0", z.when(1, 0), 0);
        DUE.is("k 0", z.when(1, 1), 1);
        Due.board(z, "thin 10;end 48");
        z.thick(0, 3);
        Due.board(z, "thin 3;end 48");
        DUE.is("k 0 with just END left by the CUT", z.when(1, 0), 0);
        Due.board(z, "thin 3;end 52");
        DUE.is("the least CORNER is below END", z.when(1, 0), -5);
        CutCrooked w = new CutCrooked();
        w.cutter(3, 0, 0, 0, 3);
        w.cutter(0, 0, 9, 0, 20);
        w.loaf(80);
        w.cut(1);
        w.turn(false);
        Due.board(w, "thin 3;end 48;slip 9 u=9");
        DUE.is("k 0", w.when(1, 0), 0);
        Due.board(w, "thin 1;end 51;slip 9 u=9");
        w.thick(0, 1);
        DUE.is("put RIGHT at just END: no CUT then", w.when(1, 0), -5);
        for (int n : new int[] {0, 21, -1}) {
            DUE.is("when(" + n + ", 0)", x.when(n, 0), -2);
            DUE.is("when(" + n + ", 2)", x.when(n, 2), -1);
        }
        DUE.is("when(1, -1)", x.when(1, -1), -1);
    }

    private static void promise21() {
        DUE.part("promise 21");
        DUE.is("nobody", new CutCrooked().guide(40), 0);
        CutCrooked x = new CutCrooked();
        x.cutter(0, 0, 9, -4, 15);
        x.cutter(1, 0, 0, 0, 15);
        // 13 of 15 are lost at a corner; halved 4 and 2 leave 9.
        DUE.is("guide(2)", x.guide(2), 2);
        DUE.is("guide(0)", x.guide(0), 0);
        DUE.is("guide(41)", x.guide(41), -10002);
        DUE.is("guide(-1)", x.guide(-1), -10002);
        CutCrooked v = new CutCrooked();
        v.cutter(0, 0, 0, 9, 10);
        DUE.is("S is halved", v.guide(1), 1);
        v.cutter(0, 0, 9, 0, 10);
        v.thick(0, 7);
        DUE.is("4 of 7 leave 3", v.guide(1), 1);
        v.thick(0, 6);
        DUE.is("4 of 6 leave 2", v.guide(1), 0);
        CutCrooked y = new CutCrooked();
        y.cutter(1, 0, 0, 0, 10);
        Due.board(y, "slip 9 c=0&s<1");
        DUE.is("slip is halved", y.guide(1), 1);
        Due.board(y, "pull 9 s=0");
        DUE.is("pull is halved", y.guide(1), 1);
        Due.board(y, "pull 15 s=0");
        DUE.is("cut toward 0", y.guide(1), 1);
        Due.board(y, "pull 16 s=0");
        DUE.is("cut toward 0", y.guide(1), 0);
        Due.board(y, "slip 15 s=0;slip 1 s=0");
        DUE.is("each is cut", y.guide(1), 1);
        CutCrooked z = new CutCrooked();
        z.cutter(0, 0, 9, 0, 11);
        z.cutter(2, 0, 5, 0, 11);
        Due.board(z, "thin 11");
        DUE.is("below 0", z.guide(2), 0);
        CutCrooked w = new CutCrooked();
        w.cutter(0, 0, 3, 0, 1);
        w.cutter(3, 0, -4, 0, 4);
        Due.board(w, "thin 1;slip 5 s=1&u>1;slip 99 s=1&u<2");
        DUE.is("below 0", w.guide(2), -1);
    }

    private static void promise22() {
        DUE.part("promise 22");
        CutCrooked x = new CutCrooked();
        x.cutter(1, 0, 5, 5, 20);
        x.cutter(0, 0, 5, 5, 20);
        x.cutter(6, 0, 5, 0, 40);
        DUE.is("again(0)", x.again(0), 1);
        DUE.is("again(1)", x.again(1), -5);
        x.cut(1);
        DUE.is("again(1)", x.again(1), 1);
        DUE.is("again(0)", x.again(0), -5);
        // The row goes on with SLICES, which are 1: -1, -1, 0, 2.
        x.row(2, 0, 6);
        x.row(2, 1, 3);
        x.row(2, 2, 3);
        DUE.is("again(2)", x.again(2), 4);
        x.row(2, 3, 5);
        DUE.is("again(2)", x.again(2), 5);
        x.row(2, 1, 4);
        x.row(2, 2, 9);
        DUE.is("again(2)", x.again(2), 1);
        x.row(2, 1, 9);
        DUE.is("again(2)", x.again(2), -5);
        x.row(2, 0, 8);
        x.row(2, 1, 0);
        x.loaf(40);
        DUE.is("END is not looked at", x.again(2), 2);
        DUE.is("cut(2)", x.cut(2), -3);
        Due.board(x, "slip 1 l>39");
        x.cutter(0, 0, 0, 0, 40);
        x.loaf(400);
        DUE.is("AT is put back", x.again(3), -5);
        Due.board(x, "slip 1 l<40");
        DUE.is("AT is put back", x.again(3), 1);
        x.cutter(3, 0, -1, 0, 1);
        x.loaf(400);
        Due.board(x, "slip 20 s=9&u>15");
        DUE.is("20 at most", x.again(4), 20);
        Due.board(x, "slip 21 s=0&u>19");
        DUE.is("21", x.again(4), -5);
        DUE.is("again(5)", x.again(5), -1);
        DUE.is("again(-1)", x.again(-1), -1);
        CutCrooked y = new CutCrooked();
        y.cutter(6, 0, 0, 0, 1);
        y.cutter(0, 0, 0, 1, 1);
        Due.board(y, "slip 5 s=9;pull 1 s<4");
        // A TOLD one takes UP and SIDE along, so that these never come back.
        DUE.is("again(0)", y.again(0), -5);
        Due.board(y, "slip 1 c=1&!s=9");
        y.cutter(5, 0, 0, 0, 1);
        DUE.is("again(1)", y.again(1), -5);
        y.cut(1);
        y.cutter(5, 0, 3, 1, 1);
        Due.board(y, "slip 99 c=3&s<9;slip 99 c=4");
        y.cutter(0, 0, 1, 1, 1);
        // At 1, 1: UP 99 and 1 till SLICES end with 9.
        DUE.is("again(4)", y.again(4), -5);
        Due.board(y, "slip 99 c=4&!s=0");
        DUE.is("20 and less", y.again(4), 10);
    }

    private static void promise23() {
        DUE.part("promise 23");
        DUE.is("nobody", new CutCrooked().evener(3, 0), -5);
        DUE.is("nobody", new CutCrooked().evener(3, 1), -5);
        CutCrooked x = two();
        DUE.is("of several the first", x.evener(2, 0), 0);
        DUE.is("evener(2, 1)", x.evener(2, 1), 0);
        DUE.is("evener(3, 0)", x.evener(3, 0), 0);
        DUE.is("evener(3, 1)", x.evener(3, 1), 80);
        x.cut(1);
        x.cut(1);
        DUE.is("EATEN till now counts", x.evener(3, 0), 1);
        DUE.is("evener(3, 1)", x.evener(3, 1), 80);
        DUE.is("evener(0, 0)", x.evener(0, 0), 1);
        DUE.is("evener(0, 1)", x.evener(0, 1), 160);
        x.cutter(1, 0, 0, 0, 1);
        DUE.is("who has least", x.evener(2, 1), 240);
        DUE.is("evener(41, 0)", x.evener(41, 0), -2);
        DUE.is("evener(-1, 0)", x.evener(-1, 0), -2);
        DUE.is("evener(41, 2)", x.evener(41, 2), -1);
        DUE.is("evener(0, -1)", x.evener(0, -1), -1);
        DUE.is("nobody, n 41", new CutCrooked().evener(41, 0), -2);
    }

    private static void promise24() {
        DUE.part("promise 24");
        CutCrooked x = new CutCrooked();
        x.cutter(1, 0, 0, 0, 20);
        x.cutter(1, 0, 0, 0, 30);
        DUE.is("game(0, 1, 1, 0)", x.game(0, 1, 1, 0), 100);
        DUE.is("game(0, 1, 1, 1)", x.game(0, 1, 1, 1), 1);
        DUE.is("game(0, 1, 2, 0)", x.game(0, 1, 2, 0), -40);
        DUE.is("game(1, 0, 3, 0)", x.game(1, 0, 3, 0), 180);
        x.thick(0, 38);
        x.thick(1, 4);
        DUE.is("40 at most", x.game(0, 1, 1, 0), 160);
        DUE.is("1 at least, 9 at most", x.game(0, 1, 2, 0), 124);
        x.loaf(40);
        x.thick(0, 20);
        // 20 leaves 20: the other one takes 9. 25 leaves 15: the other one takes 4.
        DUE.is("by the best", x.game(0, 1, 2, 0), 84);
        DUE.is("by the best", x.game(0, 1, 2, 1), 1);
        DUE.is("game(1, 0, 1, 1)", x.game(1, 0, 1, 1), 1);
        x.thick(0, 30);
        DUE.is("0 as it is", x.game(0, 1, 1, 1), 0);
        DUE.is("120", x.game(0, 1, 1, 0), 120);
        DUE.is("the other one is passed over", x.game(0, 1, 2, 0), 120);
        x.thick(0, 35);
        DUE.is("2 less", x.game(0, 1, 1, 1), 2);
        x.thick(0, 36);
        DUE.is("it can not cut", x.game(0, 1, 1, 1), -5);
        DUE.is("it can not cut", x.game(0, 1, 1, 0), 0);
        DUE.is("passed over, a CUT is gone", x.game(0, 1, 2, 0), -36);
        DUE.is("passed over, a CUT is gone", x.game(0, 1, 3, 0), -36);
        DUE.is("twice", x.game(0, 1, 4, 0), -72);
        x.loaf(300);
        Due.board(x, "slip 99 t=40;slip 99 t=36;end 99");
        x.loaf(130);
        DUE.is("t is the THICK it is cut with", x.game(0, 1, 1, 1), 2);
        CutCrooked z = new CutCrooked();
        z.cutter(1, 0, 0, 0, 1);
        z.cutter(1, 0, 0, 0, 40);
        z.loaf(40);
        Due.board(z, "thin 99;end 37");
        DUE.is("of several the first", z.game(0, 1, 1, 1), 0);
        z.thick(0, 40);
        Due.board(z, "end 0");
        DUE.is("of several the first", z.game(0, 1, 1, 1), 0);
        DUE.is("game(0, 2, 1, 0)", z.game(0, 2, 1, 0), -10001);
        DUE.is("game(2, 0, 1, 0)", z.game(2, 0, 1, 0), -10001);
        DUE.is("game(-1, -1, 1, 0)", z.game(-1, -1, 1, 0), -10001);
        DUE.is("game(0, 1, 1, 2)", z.game(0, 1, 1, 2), -10001);
        DUE.is("game(0, 0, 1, -1)", z.game(0, 0, 1, -1), -10001);
        DUE.is("game(0, 0, 1, 0)", z.game(0, 0, 1, 0), -10002);
        DUE.is("game(0, 1, 0, 0)", z.game(0, 1, 0, 0), -10002);
        DUE.is("game(0, 1, 6, 0)", z.game(0, 1, 6, 0), -10002);
    }

    private static void promise25() {
        DUE.part("promise 25");
        CutCrooked x = new CutCrooked();
        DUE.is("nobody", x.cheese(12, 0), 0);
        DUE.is("nobody", x.cheese(360, 1), 360);
        DUE.is("nobody", x.cheese(360, 10), -1);
        x.cutter(0, 0, 0, 0, 30);
        x.cutter(0, 0, 0, 0, 7);
        DUE.is("cheese(74, 0)", x.cheese(74, 0), 4);
        DUE.is("cheese(74, 1)", x.cheese(74, 1), 0);
        DUE.is("cheese(73, 0)", x.cheese(73, 0), 3);
        DUE.is("cheese(73, 1)", x.cheese(73, 1), 6);
        DUE.is("cheese(73, 10)", x.cheese(73, 10), 60);
        DUE.is("cheese(73, 11)", x.cheese(73, 11), 7);
        DUE.is("the first who has not enough ends it", x.cheese(20, 0), 0);
        DUE.is("cheese(20, 1)", x.cheese(20, 1), 20);
        DUE.is("cheese(73, 12)", x.cheese(73, 12), -1);
        for (int what : new int[] {-1, 2, 9, Integer.MIN_VALUE}) {
            DUE.is("cheese(11, " + what + ")", x.cheese(11, what), -1);
        }
        DUE.is("cheese(11, 0)", x.cheese(11, 0), -2);
        DUE.is("cheese(361, 0)", x.cheese(361, 0), -2);
        x.thick(0, 1);
        x.thick(1, 1);
        DUE.is("cheese(360, 0)", x.cheese(360, 0), 360);
        DUE.is("cheese(12, 0)", x.cheese(12, 0), 12);
    }

    /** What is asked changes nothing. */
    private static void nothingChanges() {
        DUE.part("terms 2");
        CutCrooked x = two();
        x.cutter(4, 0, 0, 0, 9);
        x.cutter(5, 0, 3, 1, 9);
        x.cut(0);
        int[] due = {300, 280, 9, -4, 1, 0, 3, 10};
        x.would(2, 0);
        x.on(40, 0);
        x.toasted(40, 9);
        x.lasts();
        x.order(0);
        x.cancel();
        x.enough(2);
        x.when(20, 0);
        x.guide(40);
        x.again(2);
        x.evener(40, 0);
        x.game(2, 3, 5, 0);
        x.cheese(100, 0);
        x.week(0);
        x.rows(-1);
        x.who();
        x.odds(3, 0);
        x.mean(0);
        x.book(2, 9);
        x.looked();
        for (int what = 0; what < due.length; what++) {
            DUE.is("told(" + what + ")", x.told(what), due[what]);
        }
        int[] eaten = {80, 0, 0, 0};
        int[] thick = {20, 20, 9, 9};
        for (int i = 0; i < 4; i++) {
            DUE.is("of(" + i + ", 5)", x.of(i, 5), eaten[i]);
            DUE.is("of(" + i + ", 4)", x.of(i, 4), thick[i]);
        }
    }
}
