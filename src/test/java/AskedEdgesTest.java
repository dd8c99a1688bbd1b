/** Terms 2, what is asked: each edge by a step inside it and one beyond. */
public final class AskedEdgesTest {
    private static final Due DUE = new Due();

    public static void main(String[] args) {
        endsWithTheFirstThatCanNotBeMade();
        endsSoonerByRightLaterByAGuide();
        onFrom0To40();
        overAndOver();
        onOfOne();
        toastedFrom0To99();
        lasts200AtMost();
        orderOf5AtMost();
        orderByK();
        orderOfSeveralTheFirst();
        orderAllBeingCut();
        cancelOneTwice();
        cancelOfSeveralTheFirst();
        cancelWithoutSigns();
        enoughFrom1To40();
        whenFrom1To20();
        whenFromTheFirstToTheLast();
        whenOnlyIfMore();
        whenPutRightByEnd();
        guideFrom0To40();
        guideIsCutToward0();
        guideBelow0();
        againFrom1To20();
        againPutsAtBack();
        evenerOfNobodyAndOfSeveral();
        gameFrom1To5();
        gameBy5MoreOrLess();
        gamePassesOver();
        cheeseFrom12To360();
        cheeseAsLongAsThereAreAsMany();
        DUE.end();
    }

    private static CutCrooked straight(int... thick) {
        CutCrooked x = new CutCrooked();
        for (int t : thick) {
            x.cutter(1, 0, 0, 0, t);
        }
        return x;
    }

    /** "A CUT that can not be made ends what goes on", though the next one could be made (promises 14 to 16, 20 ..). */
    private static void endsWithTheFirstThatCanNotBeMade() {
        DUE.part("ends what goes on");
        for (int at = 44; at <= 46; at++) {
            boolean both = at >= 45;
            CutCrooked x = straight(5, 30, 1);
            x.loaf(at);
            int many = both ? at == 45 ? 2 : 3 : 1;
            DUE.is("lasts() from " + at, x.lasts(), many);
            DUE.is("on(40, 4) from " + at, x.on(40, 4), many);
            DUE.is("on(40, 0) from " + at, x.on(40, 0), both ? 10 : 39);
            DUE.is("on(40, 5) from " + at, x.on(40, 5), both ? 2 : 1);
            DUE.is("on(40, 12) from " + at, x.on(40, 12), many == 3 ? 4 : 0);
            DUE.is("toasted(40, 99) from " + at, x.toasted(40, 99), many);
            DUE.is("evener(40, 0) from " + at, x.evener(40, 0), both ? 1 : 0);
            x.book(0, 5);
            x.book(1, 30);
            x.book(2, 1);
            DUE.is("looked() from " + at, x.looked(), both ? at == 45 ? 2 : -5 : 1);
            x.week(0);
            x.week(0);
            // 0 or 2 ahead of any but 1; 1 ahead of 2 and of 0, or behind them, as long as END is left.
            DUE.is("rows(-1) from " + at, x.rows(-1), at == 44 ? 4 + 2 : 8);
        }
        CutCrooked y = straight(5, 30, 1);
        y.loaf(44);
        // 1 behind 0 or 0 behind 1 leave 9; what 2 cuts is not GOOD.
        DUE.is("odds(2, 0)", y.odds(2, 0), 1);
        DUE.is("odds(2, 1)", y.odds(2, 1), 9);
        Due.board(y, "thin 0");
        DUE.is("odds(2, 0)", y.odds(2, 0), 2);
        DUE.is("odds(2, 1)", y.odds(2, 1), 3);
        CutCrooked z = straight(30, 5);
        z.loaf(60);
        z.cut(0);
        DUE.is("the first one ends it", z.lasts(), 0);
        DUE.is("though another could", z.would(1, 0), 20);
        DUE.is("when(20, 0)", z.when(20, 0), -5);
        DUE.is("guide(40)", z.guide(40), 0);
    }

    /** "A CUT that can not be made ends what goes on": put RIGHT fewer can be made, by a guide more (promises 20, 21). */
    private static void endsSoonerByRightLaterByAGuide() {
        DUE.part("ends sooner, later");
        // As it lies the first of four is not GOOD; put RIGHT all are, but from 62 a fourth can not be made.
        int[][] whens = {{62, 3, 0, 3}, {62, 4, -5, -5}, {62, 20, -5, -5}, {63, 3, 0, 3}, {63, 4, 0, 4}, {63, 20, 0, 4}};
        for (int[] w : whens) {
            CutCrooked x = new CutCrooked();
            x.cutter(1, 0, 0, 0, 11);
            x.loaf(w[0] + 11);
            Due.board(x, "slip 9 s=0");
            x.cut(0);
            DUE.is("told(1)", x.told(1), w[0]);
            DUE.is("told(2)", x.told(2), 9);
            DUE.is("on(" + w[1] + ", 5) from " + w[0], x.on(w[1], 5), Math.min(w[1], 4) - 1);
            DUE.is("when(" + w[1] + ", 0) from " + w[0], x.when(w[1], 0), w[2]);
            DUE.is("when(" + w[1] + ", 1) from " + w[0], x.when(w[1], 1), w[3]);
        }
        int[][] guides = {{93, 0}, {94, 1}, {98, 1}, {99, 0}, {113, 0}, {114, 1}, {118, 1}, {119, 0}};
        for (int[] g : guides) {
            CutCrooked x = new CutCrooked();
            x.cutter(0, 0, 9, 0, 20);
            x.loaf(g[0]);
            DUE.is("guide(40) from " + g[0], x.guide(40), g[1]);
        }
    }

    /** "ON n CUTS (0 .. 40)" (promises 14, 15). */
    private static void onFrom0To40() {
        DUE.part("on");
        CutCrooked x = straight(5);
        int[] ns = {Integer.MIN_VALUE, -1, 0, 1, 2, 39, 40, 41, Integer.MAX_VALUE};
        for (int n : ns) {
            boolean good = n >= 0 && n <= 40;
            DUE.is("on(" + n + ", 0)", x.on(n, 0), good ? 300 - 5 * n : -10002);
            DUE.is("on(" + n + ", 1)", x.on(n, 1), good ? 0 : -10002);
            DUE.is("on(" + n + ", 2)", x.on(n, 2), good ? 0 : -10002);
            DUE.is("on(" + n + ", 3)", x.on(n, 3), good ? 0 : -10002);
            DUE.is("on(" + n + ", 4)", x.on(n, 4), good ? n : -10002);
            DUE.is("on(" + n + ", 5)", x.on(n, 5), good ? n : -10002);
            DUE.is("on(" + n + ", 10)", x.on(n, 10), good ? 20 * n : -10002);
            DUE.is("on(" + n + ", 6)", x.on(n, 6), -10001);
            DUE.is("on(" + n + ", 11)", x.on(n, 11), -10001);
            DUE.is("toasted(" + n + ", 5)", x.toasted(n, 5), good ? n : -2);
        }
        for (int what : new int[] {Integer.MIN_VALUE, -1, 6, 7, 8, 9, 11, 15, 16, Integer.MAX_VALUE}) {
            DUE.is("on(0, " + what + ")", x.on(0, what), -10001);
        }
        CutCrooked y = new CutCrooked();
        int[] due = {300, 0, 0, 0, 0, 0};
        for (int what = 0; what < 6; what++) {
            DUE.is("nobody: on(40, " + what + ")", y.on(40, what), due[what]);
        }
        DUE.is("nobody: toasted(40, 99)", y.toasted(40, 99), 0);
    }

    /** "all CUTTERS by numbers, over and over, from 0 on": one round less one, one round, one more (promise 14). */
    private static void overAndOver() {
        DUE.part("over and over");
        CutCrooked x = straight(1, 2, 3, 4, 5, 6);
        int[][] due = {{0, 0, 0, 0, 0, 0}, {4, 0, 0, 0, 0, 0}, {4, 8, 12, 16, 20, 0}, {4, 8, 12, 16, 20, 24},
            {8, 8, 12, 16, 20, 24}, {8, 16, 24, 32, 40, 24}, {8, 16, 24, 32, 40, 48}, {12, 16, 24, 32, 40, 48}};
        int[] ns = {0, 1, 5, 6, 7, 11, 12, 13};
        for (int i = 0; i < ns.length; i++) {
            for (int c = 0; c < 6; c++) {
                DUE.is("on(" + ns[i] + ", 1" + c + ")", x.on(ns[i], 10 + c), due[i][c]);
            }
        }
        x.cut(3);
        DUE.is("from 0 on, whoever cut last", x.on(1, 10), 4);
        DUE.is("from 0 on, whoever cut last", x.on(1, 14), 0);
    }

    /** "10 and c EATEN more by that one": more, not in all (promise 14). */
    private static void onOfOne() {
        DUE.part("EATEN more");
        CutCrooked x = straight(5, 6);
        x.cut(0);
        x.cut(1);
        DUE.is("on(0, 10)", x.on(0, 10), 0);
        DUE.is("on(1, 10)", x.on(1, 10), 20);
        DUE.is("on(1, 11)", x.on(1, 11), 0);
        DUE.is("on(2, 11)", x.on(2, 11), 24);
        DUE.is("on(2, 12)", x.on(2, 12), -10001);
    }

    /** "TOASTED of m (0 .. 99)"; "MOST of m at most" (promise 15). */
    private static void toastedFrom0To99() {
        DUE.part("toasted");
        CutCrooked x = straight(5, 6, 7);
        int[] ms = {Integer.MIN_VALUE, -1, 0, 4, 5, 6, 7, 8, 99, 100, Integer.MAX_VALUE};
        int[] due = {-2, -2, 0, 0, 1, 2, 3, 3, 3, -2, -2};
        for (int i = 0; i < ms.length; i++) {
            DUE.is("toasted(3, " + ms[i] + ")", x.toasted(3, ms[i]), due[i]);
        }
        DUE.is("both BAD", x.toasted(41, 100), -2);
        CutCrooked y = new CutCrooked();
        y.cutter(0, 0, 0, 0, 1);
        int[][] slips = {{97, 1}, {98, 1}, {99, 0}};
        for (int[] slip : slips) {
            Due.board(y, "slip " + slip[0] + " c=0");
            DUE.is("MOST", y.would(0, 2), slip[0] + 1);
            DUE.is("toasted(1, 99)", y.toasted(1, 99), slip[1]);
        }
    }

    /** "LASTS: how many can be cut so (200 at most)" (promise 16). */
    private static void lasts200AtMost() {
        DUE.part("lasts");
        CutCrooked x = straight(1);
        int[][] due = {{40, 30}, {208, 198}, {209, 199}, {210, 200}, {211, 200}, {212, 200}, {999, 200}};
        for (int[] d : due) {
            x.loaf(d[0]);
            DUE.is("lasts() of " + d[0], x.lasts(), d[1]);
        }
        DUE.is("nobody", new CutCrooked().lasts(), 0);
    }

    /** "(5 CUTTERS at most; -9)" (promise 17). */
    private static void orderOf5AtMost() {
        DUE.part("order of 5");
        CutCrooked x = new CutCrooked();
        DUE.is("nobody: how much", x.order(-1), 0);
        DUE.is("nobody: the first", x.order(0), -5);
        for (int many = 1; many <= 6; many++) {
            x.cutter(1, 0, 0, 0, 5);
            DUE.is("how much of " + many, x.order(-1), many > 5 ? -9 : 0);
            for (int k = 0; k < 5; k++) {
                DUE.is("order(" + k + ") of " + many, x.order(k), many > 5 ? -9 : k < many ? k : -5);
            }
            DUE.is("NONE of " + many, x.order(5), -1);
            DUE.is("NONE of " + many, x.order(-2), -1);
        }
        x.loaf(40);
        x.thick(0, 40);
        DUE.is("6, though by none all are cut", x.order(-1), -9);
    }

    /** "ORDER: k -1 how much, else the k-th (k 0 .. 4)"; "(-5: there are fewer)" (promise 17). */
    private static void orderByK() {
        DUE.part("order by k");
        CutCrooked x = straight(5, 5, 5);
        int[] ks = {Integer.MIN_VALUE, -2, -1, 0, 1, 2, 3, 4, 5, Integer.MAX_VALUE};
        int[] due = {-1, -1, 0, 0, 1, 2, -5, -5, -1, -1};
        for (int i = 0; i < ks.length; i++) {
            DUE.is("order(" + ks[i] + ")", x.order(ks[i]), due[i]);
        }
    }

    /** "(of several the first as a row)" (promise 17). */
    private static void orderOfSeveralTheFirst() {
        DUE.part("order of several");
        CutCrooked x = new CutCrooked();
        x.cutter(0, 0, 2, 0, 20);
        x.cutter(0, 0, -2, 0, 20);
        // MOST less LEAST is 4, then 8, either way.
        DUE.is("how much", x.order(-1), 12);
        DUE.is("the first", x.order(0), 0);
        DUE.is("the second", x.order(1), 1);
        x.cutter(1, 0, 0, 0, 20);
        // Only with 2 ahead of both, between them or behind them: 0, 4, 8; 4, 4, 4; 4, 8, 4.
        DUE.is("how much", x.order(-1), 12);
        int[] due = {0, 2, 1};
        for (int k = 0; k < 3; k++) {
            DUE.is("order(" + k + ")", x.order(k), due[k]);
        }
        x.cut(0);
        // From 2 on 0 is free: 0, 2, 1 is 0 and 4 and 4.
        DUE.is("how much", x.order(-1), 8);
        DUE.is("order(1)", x.order(1), 2);
    }

    /** "all being cut"; "(-5: .. by none all are cut)" (promise 17). */
    private static void orderAllBeingCut() {
        DUE.part("order, all being cut");
        int[][] due = {{64, -5, -5}, {65, 36, 0}, {66, 36, 0}, {73, 36, 0}, {74, 18, 1}, {75, 18, 1}};
        for (int[] d : due) {
            CutCrooked x = new CutCrooked();
            x.cutter(0, 0, 9, 0, 30);
            x.cutter(1, 0, 0, 0, 25);
            x.loaf(d[0]);
            // 0 then 1 needs 55 and END; 1 then 0 needs 9 more, but only half of what is lost.
            DUE.is("how much of " + d[0], x.order(-1), d[1]);
            DUE.is("the first of " + d[0], x.order(0), d[2]);
            DUE.is("the third of " + d[0], x.order(2), -5);
        }
    }

    /** "also one twice" (promise 18). */
    private static void cancelOneTwice() {
        DUE.part("cancel of one");
        DUE.is("nobody", new CutCrooked().cancel(), -5);
        CutCrooked x = straight(20);
        DUE.is("one twice", x.cancel(), 0);
        for (int at = 49; at <= 51; at++) {
            x.loaf(at);
            DUE.is("one twice from " + at, x.cancel(), at < 50 ? -5 : 0);
        }
        CutCrooked y = new CutCrooked();
        for (int i = 0; i < 5; i++) {
            y.cutter(3, 0, 9 - i, 0, 1);
        }
        y.cutter(3, 0, -4, 0, 1);
        // The fifth one's 5 and the sixth one's 4 the other way are 1; one twice is 8 at least.
        DUE.is("the last two", y.cancel(), 45);
        y.cut(4);
        y.cut(5);
        y.cut(5);
        y.cut(5);
        DUE.is("told(2)", y.told(2), -7);
        // From -7 on 9 less 4 leaves -2, 8 less 4 leaves -3, 5 and 5 leave 3.
        DUE.is("cancel()", y.cancel(), 5);
        CutCrooked z = new CutCrooked();
        for (int i = 0; i < 5; i++) {
            z.cutter(0, 0, 9, 9, 1);
        }
        z.cutter(0, 0, 1, 0, 1);
        DUE.is("the least is by the last one", z.cancel(), 5);
        CutCrooked w = new CutCrooked();
        for (int i = 0; i < 6; i++) {
            w.cutter(3, 0, i < 5 ? 9 : -9, 0, 1);
        }
        Due.board(w, "slip 99 c<5;slip 9 c=5");
        DUE.is("one twice, the last", w.cancel(), 55);
    }

    /** "(of several the first)": by the first one, then by the second one (promise 18). */
    private static void cancelOfSeveralTheFirst() {
        DUE.part("cancel of several");
        CutCrooked x = new CutCrooked();
        x.cutter(3, 0, 3, 0, 5);
        x.cutter(3, 0, -3, 0, 5);
        x.cutter(3, 0, -3, 0, 5);
        DUE.is("01, 02, 10, 20 alike", x.cancel(), 1);
        CutCrooked y = new CutCrooked();
        y.cutter(3, 0, 3, 0, 5);
        y.cutter(0, 0, 1, 0, 5);
        y.cutter(0, 0, -1, 0, 5);
        DUE.is("01, 02, 11, 12 .. alike", y.cancel(), 1);
    }

    /** "UP and SIDE, without signs, together" (promise 18). */
    private static void cancelWithoutSigns() {
        DUE.part("cancel without signs");
        CutCrooked x = new CutCrooked();
        x.cutter(0, 0, -9, 9, 5);
        x.cutter(0, 0, -4, -5, 5);
        x.cutter(0, 0, 8, 0, 5);
        x.cutter(0, 0, 0, -8, 5);
        DUE.is("8 is less than 9 and 18", x.cancel(), 2);
        x.cutter(0, 0, -3, -4, 5);
        DUE.is("7 is less than 8", x.cancel(), 4);
    }

    /** "the least THICK (1 .. 40), in place of its own" (promise 19). */
    private static void enoughFrom1To40() {
        DUE.part("enough");
        int[][] due = {{0, 1}, {1, 1}, {2, 2}, {39, 39}, {40, 40}, {41, -5}, {99, -5}};
        for (int[] d : due) {
            CutCrooked x = straight(1, 40);
            Due.board(x, "thin " + d[0]);
            DUE.is("enough(0) by THIN " + d[0], x.enough(0), d[1]);
            DUE.is("enough(1) by THIN " + d[0], x.enough(1), d[1]);
        }
        int[][] slants = {{9, 21, 39}, {9, 22, 40}, {9, 23, -5}, {-9, 22, 40}};
        for (int[] s : slants) {
            CutCrooked x = new CutCrooked();
            x.cutter(0, 0, s[0], 9, 1);
            Due.board(x, "thin " + s[1]);
            DUE.is("enough(0) by THIN " + s[1], x.enough(0), s[2]);
        }
        // GOOD from 20 on, to be cut till 19, 20 and 21.
        for (int at = 59; at <= 61; at++) {
            CutCrooked x = straight(1);
            Due.board(x, "thin 20;end 40");
            x.loaf(at);
            DUE.is("enough(0) from " + at, x.enough(0), at == 59 ? -5 : 20);
        }
        CutCrooked y = straight(20);
        Due.board(y, "slip 30 t<40;slip 31 !t=40");
        DUE.is("t is what is tried", y.enough(0), 40);
        DUE.is("THICK stays", y.of(0, 4), 20);
    }

    /** "RIGHT of n CUTS (1 .. 20)" (promise 20). */
    private static void whenFrom1To20() {
        DUE.part("when");
        CutCrooked x = new CutCrooked();
        x.cutter(1, 0, 0, 0, 5);
        int[] ns = {Integer.MIN_VALUE, -1, 0, 1, 2, 19, 20, 21, Integer.MAX_VALUE};
        for (int n : ns) {
            for (int what = 0; what <= 1; what++) {
                DUE.is("when(" + n + ", " + what + ")", x.when(n, what), n >= 1 && n <= 20 ? -5 : -2);
            }
            for (int what : new int[] {Integer.MIN_VALUE, -1, 2, Integer.MAX_VALUE}) {
                DUE.is("when(" + n + ", " + what + ")", x.when(n, what), -1);
            }
        }
        DUE.is("nobody", new CutCrooked().when(20, 0), -5);
        DUE.is("nobody", new CutCrooked().when(20, 1), -5);
    }

    /** "the k (0 .. n less 1)": the first, the last, and one beyond the last (promise 20). */
    private static void whenFromTheFirstToTheLast() {
        DUE.part("when, k");
        CutCrooked y = new CutCrooked();
        y.cutter(0, 0, 9, 0, 11);
        for (int i = 1; i < 6; i++) {
            y.cutter(3, 0, 0, 0, 11);
        }
        y.cut(0);
        y.turn(false);
        Due.board(y, "thin 2");
        // From -9 to 9 the first one loses 18 of 11, put RIGHT 9; all others none.
        DUE.is("on(1, 5)", y.on(1, 5), 0);
        DUE.is("the first", y.when(1, 0), 0);
        DUE.is("the first", y.when(6, 0), 0);
        DUE.is("how many", y.when(6, 1), 6);
        CutCrooked z = new CutCrooked();
        for (int i = 0; i < 4; i++) {
            z.cutter(3, 0, 0, 0, 11);
        }
        z.cutter(0, 0, -9, 0, 11);
        Due.board(z, "thin 2;slip 4 s=0");
        // UP 4 behind the first one, -9 behind the fifth: 13 of 11; put RIGHT anywhere between, 9.
        DUE.is("on(5, 5)", z.on(5, 5), 4);
        DUE.is("four are GOOD", z.when(4, 0), -5);
        DUE.is("the least of several", z.when(5, 0), 1);
        DUE.is("how many", z.when(5, 1), 5);
        CutCrooked w = new CutCrooked();
        for (int i = 0; i < 4; i++) {
            w.cutter(3, 0, 0, 0, 11);
        }
        w.cutter(0, 0, -9, 0, 11);
        Due.board(w, "thin 2;slip 4 s=3");
        DUE.is("beyond the last", w.when(4, 0), -5);
        DUE.is("the last", w.when(5, 0), 4);
        DUE.is("how many", w.when(5, 1), 5);
        CutCrooked v = new CutCrooked();
        v.cutter(3, 0, 0, 0, 11);
        v.loaf(400);
        Due.board(v, "thin 2;slip 4 s=8&l<30;slip 10 s=9&u=4");
        // The nineteenth slips by 4, the twentieth, as it lies so, by 10: put RIGHT ahead of it, by none.
        DUE.is("on(19, 5)", v.on(19, 5), 19);
        DUE.is("on(20, 5)", v.on(20, 5), 19);
        DUE.is("beyond the last", v.when(19, 0), -5);
        DUE.is("the last of 20", v.when(20, 0), 19);
        DUE.is("how many of 20", v.when(20, 1), 20);
    }

    /** "if more than without (-5: else)" (promise 20). */
    private static void whenOnlyIfMore() {
        DUE.part("when, if more");
        int[][] due = {{11, -5}, {12, 0}, {13, 0}, {20, 0}, {21, -5}, {22, -5}};
        for (int[] d : due) {
            CutCrooked x = new CutCrooked();
            x.cutter(0, 0, 9, 0, d[0]);
            x.cut(0);
            x.turn(false);
            // 18 are lost as it lies, 9 put RIGHT: THIN 3 wants 21, or 12.
            DUE.is("when(1, 0) of " + d[0], x.when(1, 0), d[1]);
            DUE.is("when(1, 1) of " + d[0], x.when(1, 1), d[1] == 0 ? 1 : -5);
        }
    }

    /** "(nothing is done then, if the least CORNER is below END)"; the CUT behind it wants END, too (promise 20). */
    private static void whenPutRightByEnd() {
        DUE.part("when, by END");
        // Put RIGHT it lies at AT less 9, and is cut to 12 below that.
        int[][] due = {{50, -5}, {51, 0}, {52, 0}};
        for (int[] d : due) {
            CutCrooked x = new CutCrooked();
            x.cutter(1, 0, 0, 0, 11);
            x.cutter(0, 0, 9, 0, 9);
            x.loaf(d[0] + 9);
            x.cut(1);
            DUE.is("told(1)", x.told(1), d[0]);
            Due.board(x, "end 31");
            DUE.is("when(1, 0) from " + d[0], x.when(1, 0), d[1]);
            Due.board(x, "end " + (d[0] - 9));
            DUE.is("just END: no CUT then", x.when(1, 0), -5);
            DUE.is("right()", x.right(), 36);
        }
        CutCrooked y = new CutCrooked();
        y.cutter(1, 0, 0, 0, 11);
        y.cutter(0, 0, 9, 0, 9);
        y.loaf(60);
        y.cut(1);
        Due.board(y, "end 43");
        DUE.is("below END", y.when(1, 0), -5);
        DUE.is("below END", y.right(), -3);
        DUE.is("END is below AT", y.told(1), 51);
    }

    /** "GUIDE of n CUTS (0 .. 40)" (promise 21). */
    private static void guideFrom0To40() {
        DUE.part("guide");
        CutCrooked x = new CutCrooked();
        x.cutter(0, 0, 7, 0, 6);
        x.cutter(1, 0, 0, 0, 6);
        // LEAST is 0, by the guide 3.
        int[] ns = {Integer.MIN_VALUE, -1, 0, 1, 2, 39, 40, 41, Integer.MAX_VALUE};
        int[] due = {-10002, -10002, 0, 1, 2, 39, 40, -10002, -10002};
        for (int i = 0; i < ns.length; i++) {
            DUE.is("guide(" + ns[i] + ")", x.guide(ns[i]), due[i]);
        }
        DUE.is("nobody", new CutCrooked().guide(40), 0);
    }

    /** "were all U, S, slip, pull halved (cut toward 0 each)" (promise 21). */
    private static void guideIsCutToward0() {
        DUE.part("guide, cut toward 0");
        for (int slant : new int[] {-9, -8, -3, -2, -1, 0, 1, 2, 3, 8, 9}) {
            int half = Math.abs(slant) / 2;
            guide(slant, 0, "", half, Math.abs(slant));
            guide(0, slant, "", half, Math.abs(slant));
        }
        for (int n : new int[] {0, 1, 2, 3, 15, 16, 17}) {
            guide(0, 0, ";slip " + n + " c=0", n / 2, n);
            guide(0, 0, ";pull " + n + " c=0", n / 2, n);
            guide(0, 0, ";slip " + n + " c=0;pull 1 c=0", n / 2, n + 1);
            guide(0, 0, ";slip " + n + " c=0;slip 1 c=0", n / 2, n + 1);
            guide(1, 0, ";slip " + n + " c=0", n / 2, n + 1);
            guide(-1, 0, ";slip " + n + " c=0", n / 2, Math.abs(n - 1));
        }
    }

    /** By the guide so much is lost of 20, without it so much: GOOD by THIN, by THIN one more, and so on. */
    private static void guide(int u, int s, String clauses, int halved, int whole) {
        for (int thin = 20 - halved - 1; thin <= 20 - halved + 1; thin++) {
            CutCrooked x = new CutCrooked();
            x.cutter(0, 0, u, s, 20);
            Due.board(x, "thin " + thin + clauses);
            int due = (20 - halved >= thin ? 1 : 0) - (20 - whole >= thin ? 1 : 0);
            DUE.is("guide(1) by " + u + ", " + s + clauses + ", THIN " + thin, x.guide(1), due);
        }
    }

    /** "(may be below 0)" (promise 21). */
    private static void guideBelow0() {
        DUE.part("guide below 0");
        CutCrooked x = new CutCrooked();
        x.cutter(0, 0, 6, 0, 20);
        x.cutter(3, 0, 0, 0, 20);
        Due.board(x, "thin 14;slip 40 s=1&u=3");
        DUE.is("on(2, 5)", x.on(2, 5), 2);
        DUE.is("guide(1)", x.guide(1), 0);
        DUE.is("guide(2)", x.guide(2), -1);
    }

    /** "the fewest CUTS (1 .. 20)"; "(-5)" (promise 22). */
    private static void againFrom1To20() {
        DUE.part("again");
        String[] boards = {"slip 1 s=0", "slip 2 s=1", "slip 19 s=8&u>15", "slip 20 s=9&u>15", "slip 21 s=0&u>19",
            "slip 22 s=1&u>19", "slip 0 s=0"};
        int[] due = {1, 2, 19, 20, -5, -5, -5};
        for (int i = 0; i < boards.length; i++) {
            CutCrooked x = new CutCrooked();
            x.cutter(3, 0, -1, 0, 1);
            Due.board(x, boards[i]);
            DUE.is("again(0) by " + boards[i], x.again(0), due[i]);
            CutCrooked y = new CutCrooked();
            y.cutter(3, 0, 0, -1, 1);
            Due.board(y, boards[i].replace("slip", "pull"));
            DUE.is("again(0), SIDE", y.again(0), boards[i].contains("u") || i == 6 ? -5 : due[i]);
        }
        CutCrooked z = new CutCrooked();
        z.cutter(0, 0, 0, 1, 1);
        DUE.is("UP alone is not enough", z.again(0), -5);
        CutCrooked w = new CutCrooked();
        w.cutter(0, 0, 1, 0, 1);
        DUE.is("SIDE alone is not enough", w.again(0), -5);
        w.cut(0);
        DUE.is("as now, not as at first", w.again(0), 1);
    }

    /** "(behind each CUT AT is put back to what it is now; END is not looked at)" (promise 22). */
    private static void againPutsAtBack() {
        DUE.part("again, AT");
        CutCrooked x = new CutCrooked();
        x.cutter(3, 0, -1, 0, 40);
        x.loaf(40);
        Due.board(x, "end 99;slip 5 s=4&l=4;slip 9 l<4");
        DUE.is("would(0, 0)", x.would(0, 0), -10005);
        DUE.is("again(0)", x.again(0), 5);
        Due.board(x, "slip 1 l=3");
        DUE.is("again(0)", x.again(0), -5);
        CutCrooked y = new CutCrooked();
        y.cutter(4, 0, 0, 0, 40);
        y.cutter(0, 0, 5, 0, 1);
        y.loaf(100);
        y.cut(1);
        // RIGHTING leaves UP 0, which was 5; at 99 a slip puts it back at once.
        DUE.is("again(0)", y.again(0), -5);
        Due.board(y, "slip 5 s=2&l=9");
        DUE.is("AT by RIGHT is put back, too", y.again(0), 2);
    }

    /** "who has EATEN most behind them; how much more than who has least (-5: nobody is there)" (promise 23). */
    private static void evenerOfNobodyAndOfSeveral() {
        DUE.part("evener");
        CutCrooked x = new CutCrooked();
        int[] ns = {Integer.MIN_VALUE, -1, 0, 1, 39, 40, 41, Integer.MAX_VALUE};
        for (int n : ns) {
            boolean good = n >= 0 && n <= 40;
            DUE.is("nobody: evener(" + n + ", 0)", x.evener(n, 0), good ? -5 : -2);
            DUE.is("nobody: evener(" + n + ", 1)", x.evener(n, 1), good ? -5 : -2);
            DUE.is("nobody: evener(" + n + ", 2)", x.evener(n, 2), -1);
            DUE.is("nobody: evener(" + n + ", -1)", x.evener(n, -1), -1);
        }
        CutCrooked y = straight(5, 5, 5);
        int[] many = {0, 1, 2, 3, 4, 5, 6, 39, 40};
        int[] more = {0, 20, 20, 0, 20, 20, 0, 0, 20};
        for (int i = 0; i < many.length; i++) {
            DUE.is("of several the first", y.evener(many[i], 0), 0);
            DUE.is("evener(" + many[i] + ", 1)", y.evener(many[i], 1), more[i]);
        }
        DUE.is("evener(41, 0)", y.evener(41, 0), -2);
        DUE.is("evener(-1, 0)", y.evener(-1, 0), -2);
        y.cut(2);
        DUE.is("the last one", y.evener(0, 0), 2);
        DUE.is("as much as he", y.evener(1, 0), 0);
        DUE.is("the last one is at 40", y.evener(3, 0), 2);
        DUE.is("and the others at 20", y.evener(3, 1), 20);
        CutCrooked z = new CutCrooked();
        z.cutter(0, 0, 9, 9, 4);
        z.cutter(1, 0, 0, 0, 7);
        // 4 by 9 and 9: 4, none, 22 and 4; 7 back from there: 7, 25, none and 7.
        DUE.is("by the SLICES as they are", z.evener(1, 1), 30);
        DUE.is("by the SLICES as they are", z.evener(2, 1), 39 - 30);
        DUE.is("by the SLICES as they are", z.evener(2, 0), 1);
        DUE.is("one alone", straight(5).evener(40, 1), 0);
        DUE.is("one alone", straight(5).evener(40, 0), 0);
    }

    /** "GAME .. for n CUTS (1 .. 5)"; "one is both" (promise 24). */
    private static void gameFrom1To5() {
        DUE.part("game");
        CutCrooked x = straight(10, 10);
        int[] ns = {Integer.MIN_VALUE, -1, 0, 1, 2, 3, 4, 5, 6, Integer.MAX_VALUE};
        int[] due = {-10002, -10002, -10002, 60, 0, 60, 0, 60, -10002, -10002};
        for (int i = 0; i < ns.length; i++) {
            DUE.is("game(0, 1, " + ns[i] + ", 0)", x.game(0, 1, ns[i], 0), due[i]);
            DUE.is("game(1, 0, " + ns[i] + ", 1)", x.game(1, 0, ns[i], 1), due[i] < 0 ? -10002 : 1);
            DUE.is("game(0, 0, " + ns[i] + ", 0)", x.game(0, 0, ns[i], 0), -10002);
            DUE.is("game(0, 2, " + ns[i] + ", 0)", x.game(0, 2, ns[i], 0), -10001);
            DUE.is("game(2, 2, " + ns[i] + ", 0)", x.game(2, 2, ns[i], 0), -10001);
        }
        for (int what : new int[] {Integer.MIN_VALUE, -1, 2, Integer.MAX_VALUE}) {
            DUE.is("game(0, 1, 1, " + what + ")", x.game(0, 1, 1, what), -10001);
            DUE.is("game(0, 0, 0, " + what + ")", x.game(0, 0, 0, what), -10001);
        }
    }

    /** "with 5 more (40 at most), or 5 less (1 at least)"; "of several the first" (promise 24). */
    private static void gameBy5MoreOrLess() {
        DUE.part("game, more and less");
        int[][] more = {{1, 24, 1}, {34, 156, 1}, {35, 160, 1}, {36, 160, 1}, {39, 160, 1}, {40, 160, 0}};
        for (int[] m : more) {
            CutCrooked x = straight(m[0], 1);
            DUE.is("more of " + m[0], x.game(0, 1, 1, 0), m[1]);
            DUE.is("more of " + m[0], x.game(0, 1, 1, 1), m[2]);
            DUE.is("THICK stays", x.of(0, 4), m[0]);
        }
        int[][] less = {{40, 5, 140, 2}, {7, 38, 8, 2}, {6, 39, 4, 2}, {5, 39, 4, 2}, {2, 39, 4, 2}, {1, 39, 4, 0},
            {6, 40, 0, -5}, {1, 40, 0, -5}, {7, 39, 0, -5}};
        for (int[] l : less) {
            CutCrooked x = straight(l[0], 1);
            Due.board(x, "end " + l[1]);
            x.loaf(40);
            DUE.is("less of " + l[0], x.game(0, 1, 1, 0), l[2]);
            DUE.is("less of " + l[0], x.game(0, 1, 1, 1), l[3]);
        }
    }

    /** "who can not cut with any is passed over"; "-5: it can not cut" (promise 24). */
    private static void gamePassesOver() {
        DUE.part("game, passed over");
        CutCrooked x = straight(20, 1);
        x.loaf(40);
        Due.board(x, "end 30");
        // Only the second one cuts, at every other turn: 6, then 1 as 6 more are not there.
        int[] due = {0, -24, -24, -28, -28};
        for (int n = 1; n <= 5; n++) {
            DUE.is("game(0, 1, " + n + ", 1)", x.game(0, 1, n, 1), -5);
            DUE.is("game(0, 1, " + n + ", 0)", x.game(0, 1, n, 0), due[n - 1]);
        }
        DUE.is("the second one first", x.game(1, 0, 1, 0), 24);
        DUE.is("the second one first", x.game(1, 0, 5, 0), 32);
        DUE.is("the second one first", x.game(1, 0, 5, 1), 0);
        CutCrooked y = straight(40, 40);
        y.loaf(40);
        Due.board(y, "end 40");
        DUE.is("nobody can", y.game(0, 1, 5, 0), 0);
        DUE.is("nobody can", y.game(0, 1, 5, 1), -5);
    }

    /** "CHEESE of n parts (12 .. 360 ..)" (promise 25). */
    private static void cheeseFrom12To360() {
        DUE.part("cheese");
        CutCrooked x = straight(5, 1);
        int[] ns = {Integer.MIN_VALUE, 0, 11, 12, 13, 359, 360, 361, Integer.MAX_VALUE};
        int[] wedges = {-2, -2, -2, 4, 4, 119, 120, -2, -2};
        int[] left = {-2, -2, -2, 0, 1, 0, 0, -2, -2};
        int[] first = {-2, -2, -2, 10, 10, 300, 300, -2, -2};
        int[] second = {-2, -2, -2, 2, 2, 59, 60, -2, -2};
        for (int i = 0; i < ns.length; i++) {
            DUE.is("cheese(" + ns[i] + ", 0)", x.cheese(ns[i], 0), wedges[i]);
            DUE.is("cheese(" + ns[i] + ", 1)", x.cheese(ns[i], 1), left[i]);
            DUE.is("cheese(" + ns[i] + ", 10)", x.cheese(ns[i], 10), first[i]);
            DUE.is("cheese(" + ns[i] + ", 11)", x.cheese(ns[i], 11), second[i]);
            for (int what : new int[] {Integer.MIN_VALUE, -1, 2, 9, 12, 16, Integer.MAX_VALUE}) {
                DUE.is("cheese(" + ns[i] + ", " + what + ")", x.cheese(ns[i], what), -1);
            }
        }
        CutCrooked y = new CutCrooked();
        DUE.is("nobody", y.cheese(12, 0), 0);
        DUE.is("nobody", y.cheese(12, 1), 12);
        DUE.is("nobody", y.cheese(12, 10), -1);
        DUE.is("nobody", y.cheese(11, 0), -2);
    }

    /** "as many parts as its THICK, as long as there are as many" (promise 25). */
    private static void cheeseAsLongAsThereAreAsMany() {
        DUE.part("cheese, as many");
        int[][] due = {{11, 1, 1, 11}, {12, 1, 0, 12}, {13, 0, 12, 0}};
        for (int[] d : due) {
            CutCrooked x = straight(d[0]);
            DUE.is("wedges of " + d[0], x.cheese(12, 0), d[1]);
            DUE.is("left of " + d[0], x.cheese(12, 1), d[2]);
            DUE.is("had of " + d[0], x.cheese(12, 10), d[3]);
        }
        CutCrooked y = straight(20, 21, 1);
        DUE.is("whoever has not enough ends it", y.cheese(40, 0), 1);
        DUE.is("though the next one had", y.cheese(40, 1), 20);
        DUE.is("cheese(41, 0)", y.cheese(41, 0), 2);
        DUE.is("cheese(41, 1)", y.cheese(41, 1), 0);
        DUE.is("cheese(42, 0)", y.cheese(42, 0), 3);
        DUE.is("cheese(42, 12)", y.cheese(42, 12), 1);
        y.loaf(40);
        DUE.is("the loaf is none of it", y.cheese(360, 0), 3 * 8 + 1);
    }
}
