/** Terms 1, what is told of a CUT and of THE SLICE: each edge by a step inside it and one beyond. */
public final class CutsEdgesTest {
    private static final Due DUE = new Due();

    public static void main(String[] args) {
        rightingIfItIsNotStraight();
        rightingTakesTheLeastCorner();
        overTurnsUp();
        overLeavesSide();
        kindsOfNewFaces();
        halfIsCutToward0();
        rowAtSlicesModulo4();
        rowLess4();
        slipAndPullAreAdded();
        testsAreOfHowTheCutBegins();
        heldTo99();
        heldAtTheEndAlone();
        edgesAre0AtLeast();
        sliceIsBehindRightAndOver();
        goodByThin();
        thinOf0();
        canBeCutByEnd();
        endByTheLeastCorner();
        endOf0();
        endInAGame();
        rightByEnd();
        nothingIsDoneElse();
        eatenAndSlicesAreMore();
        DUE.end();
    }

    /** Cutter 0 as told, cutter 1 a STRAIGHT one of thick 1; the face as told, no CLAUSES but END 0. */
    private static CutCrooked lying(int kind, int u, int s, int thick, int at, int up, int side) {
        CutCrooked x = new CutCrooked();
        x.cutter(kind, 0, u, s, thick);
        x.cutter(1, 0, 0, 0, 1);
        x.loaf(at + 1);
        Due.board(x, "end 0;slip " + Math.abs(up) + " s=0;pull " + Math.abs(side) + " s=0");
        x.cut(1);
        if (up < 0) {
            x.turn(false);
        }
        if (side < 0) {
            x.turn(true);
        }
        DUE.is("board", Due.board(x, "end 0"), 1);
        DUE.is("told(1)", x.told(1), at);
        DUE.is("told(2)", x.told(2), up);
        DUE.is("told(3)", x.told(3), side);
        return x;
    }

    /** How the face lies behind a CUT of cutter 0, by each call that tells it; the CUT is made. */
    private static void lies(CutCrooked x, String how, int at, int up, int side) {
        DUE.is("would(0, 3) " + how, x.would(0, 3), at);
        DUE.is("would(0, 4) " + how, x.would(0, 4), up);
        DUE.is("would(0, 5) " + how, x.would(0, 5), side);
        DUE.is("on(1, 0) " + how, x.on(1, 0), at);
        DUE.is("on(1, 1) " + how, x.on(1, 1), up);
        DUE.is("on(1, 2) " + how, x.on(1, 2), side);
        x.see(up, side);
        DUE.is("who() " + how, x.who() & 1, 1);
        x.see(up == 99 ? 98 : up + 1, side);
        DUE.is("who() else " + how, x.who() & 1, 0);
        x.clear();
        x.week(up);
        DUE.is("rows(0) " + how, x.rows(0), 0);
        DUE.is("cut(0) " + how, x.cut(0) >= 0 ? 1 : 0, 1);
        DUE.is("told(1) " + how, x.told(1), at);
        DUE.is("told(2) " + how, x.told(2), up);
        DUE.is("told(3) " + how, x.told(3), side);
    }

    /** "RIGHTING, if UP or SIDE is not 0: it puts it RIGHT" (promises 10, 13, 14). */
    private static void rightingIfItIsNotStraight() {
        DUE.part("RIGHTING if it is not straight");
        int[][] slopes = {{0, 0}, {1, 0}, {0, 1}, {-1, 0}, {0, -1}, {1, 1}, {-1, 1}, {99, 0}, {0, -99}, {99, -99}};
        for (int[] slope : slopes) {
            int off = Math.abs(slope[0]) + Math.abs(slope[1]);
            CutCrooked x = lying(4, 9, -9, 20, 300, slope[0], slope[1]);
            String how = "from " + slope[0] + ", " + slope[1];
            DUE.is("would(0, 6) " + how, x.would(0, 6), 4 * off);
            DUE.is("on(1, 3) " + how, x.on(1, 3), 4 * off);
            DUE.is("would(0, 0) " + how, x.would(0, 0), 80);
            DUE.is("would(0, 1) " + how, x.would(0, 1), 20);
            DUE.is("would(0, 2) " + how, x.would(0, 2), 20);
            lies(x, how, 280 - off, 0, 0);
            DUE.is("WASTE " + how, x.told(5), 4 * off);
            DUE.is("then it is straight", x.would(0, 6), 0);
        }
    }

    /** "the CORNER with the least number becomes AT .. all four CORNERS less that, together, are WASTE more". */
    private static void rightingTakesTheLeastCorner() {
        DUE.part("the least corner");
        int[][] slopes = {{-5, 3}, {-5, -3}, {5, 3}, {5, -3}};
        for (int k = 0; k < 4; k++) {
            CutCrooked x = lying(4, 0, 0, 7, 200, slopes[k][0], slopes[k][1]);
            int sum = 0;
            for (int i = 10; i < 14; i++) {
                sum += x.told(i) - 192;
            }
            DUE.is("the least one", x.told(10 + k), 192);
            DUE.is("would(0, 6)", x.would(0, 6), sum);
            DUE.is("would(0, 3)", x.would(0, 3), 185);
            DUE.is("right()", x.right(), sum);
            DUE.is("told(1)", x.told(1), 192);
        }
    }

    /** "OVER: UP becomes what it is with the other sign" (promises 10, 13, 14, 27, 30). */
    private static void overTurnsUp() {
        DUE.part("OVER");
        int[][] ups = {{0, 0}, {1, 0}, {-1, 0}, {2, -1}, {-2, 1}, {40, -20}, {-40, 20}, {99, -49}, {-99, 49}};
        for (int[] up : ups) {
            lies(lying(5, 0, 0, 20, 300, up[0], 0), "from " + up[0], 280, up[1], 0);
            lies(lying(5, 9, 0, 20, 300, up[0], 0), "from " + up[0] + " by 9", 280, up[1] + 9, 0);
        }
        // Turned to -40 it is left at -20: the SLICE is 20 less 20 and 20 more 20.
        CutCrooked x = lying(5, 0, 0, 20, 300, 40, 0);
        DUE.is("LEAST", x.would(0, 1), 0);
        DUE.is("MOST", x.would(0, 2), 40);
        DUE.is("WASTE more", x.would(0, 6), 0);
    }

    private static void overLeavesSide() {
        DUE.part("OVER leaves SIDE");
        lies(lying(5, 0, 0, 20, 300, 0, 40), "from 40", 280, 0, 20);
        lies(lying(5, 0, 0, 20, 300, 0, -40), "from -40", 280, 0, -20);
    }

    /** "New UP by KIND", "New SIDE: likewise by S and SIDE (TOLD: as FOLLOW)" (promises 10, 13, 14, 27, 30). */
    private static void kindsOfNewFaces() {
        DUE.part("kinds");
        int[] up = {4, 0, 4 + 5, 4 + 11, 0, 4 - 5, 11};
        int[] side = {-3, 0, -3 - 4, -3 - 9, 0, -3 - 4, -3 - 9};
        int[] zeroUp = {4, 0, 4, 4, 0, 4, 0};
        int[] zeroSide = {-3, 0, -3, -3, 0, -3, -3};
        for (int kind = 0; kind < 7; kind++) {
            lies(lying(kind, 4, -3, 30, 300, 11, -9), "kind " + kind, kind == 4 ? 250 : 270, up[kind], side[kind]);
            lies(lying(kind, 4, -3, 30, 300, 0, 0), "kind " + kind, 270, zeroUp[kind], zeroSide[kind]);
        }
    }

    /** "the half (cut toward 0)" (promises 10, 13, 14, 27, 30). */
    private static void halfIsCutToward0() {
        DUE.part("the half");
        int[][] halves = {{-99, -49}, {-3, -1}, {-2, -1}, {-1, 0}, {0, 0}, {1, 0}, {2, 1}, {3, 1}, {99, 49}};
        for (int[] half : halves) {
            lies(lying(2, 1, -1, 20, 300, half[0], 0), "SLANT, UP " + half[0], 280, half[1] + 1, -1);
            lies(lying(2, 1, -1, 20, 300, 0, half[0]), "SLANT, SIDE " + half[0], 280, 1, half[1] - 1);
            lies(lying(5, 1, -1, 20, 300, half[0], 0), "OVER, UP " + half[0], 280, -half[1] + 1, -1);
            lies(lying(5, 1, -1, 20, 300, 0, half[0]), "OVER, SIDE " + half[0], 280, 1, half[1] - 1);
        }
    }

    /** "TOLD: UP, and its ROW at SLICES modulo 4" (promises 10, 13, 14, 22, 30). */
    private static void rowAtSlicesModulo4() {
        DUE.part("SLICES modulo 4");
        CutCrooked x = new CutCrooked();
        x.cutter(6, 0, 9, 0, 5);
        int[] row = {9, 5, 2, 8};
        for (int k = 0; k < 4; k++) {
            x.row(0, k, row[k]);
        }
        // 5, 1, -2, 4 more, over and over.
        int[] ups = {5, 6, 4, 8, 13, 14, 12, 16, 21};
        for (int n = 1; n <= 9; n++) {
            DUE.is("on(" + n + ", 1)", x.on(n, 1), ups[n - 1]);
        }
        for (int up : new int[] {5, 6, 4, 8}) {
            x.week(up);
        }
        DUE.is("rows(-1)", x.rows(-1), 1);
        for (int i = 0; i < 9; i++) {
            DUE.is("would(0, 4)", x.would(0, 4), ups[i]);
            x.cut(0);
            DUE.is("told(2)", x.told(2), ups[i]);
        }
        x.loaf(300);
        DUE.is("from the first again", x.would(0, 4), 5);
        // -2 and 2 from the third on: as it lay behind two more.
        x.row(0, 3, 6);
        x.cut(0);
        x.cut(0);
        DUE.is("again(0)", x.again(0), 2);
        x.cut(0);
        DUE.is("again(0)", x.again(0), -5);
    }

    /** "its ROW .., less 4": the least, 4 and the most (promises 7, 10, 13). */
    private static void rowLess4() {
        DUE.part("less 4");
        for (int n : new int[] {0, 1, 3, 4, 5, 8, 9}) {
            CutCrooked x = lying(6, 9, 0, 20, 300, 20, 0);
            x.row(0, 1, n);
            lies(x, "row " + n, 280, 20 + n - 4, 0);
        }
    }

    /** "the n of all slip whose E holds is added then"; "the n of all pull" (promises 10, 13, 14, 27, 30). */
    private static void slipAndPullAreAdded() {
        DUE.part("slip and pull");
        int[] up = {4, 0, 4 + 5, 4 + 11, 0, 4 - 5, 11};
        int[] side = {-3, 0, -3 - 4, -3 - 9, 0, -3 - 4, -3 - 9};
        for (int kind = 0; kind < 7; kind++) {
            CutCrooked x = lying(kind, 4, -3, 30, 300, 11, -9);
            Due.board(x, "slip 7 s=1;pull 20 c=0;slip 30 k=" + kind + "&c>0;pull 1 t=30;slip 0 s=1");
            lies(x, "kind " + kind, kind == 4 ? 250 : 270, up[kind] + 7, side[kind] + 21);
        }
    }

    /** "(E by how all is as the CUT begins)" (promises 10, 13, 14). */
    private static void testsAreOfHowTheCutBegins() {
        DUE.part("as the CUT begins");
        CutCrooked x = lying(4, 0, 0, 20, 300, 12, -8);
        // RIGHT would leave UP 0 and AT 280, the CUT AT 260 and SLICES 2.
        Due.board(x, "slip 1 u=12;slip 2 u=0;slip 4 l=30;slip 8 l<29;slip 16 s=1;slip 32 s=2;slip 64 !t=20");
        lies(x, "RIGHTING", 260, 21, 0);
        CutCrooked y = lying(5, 0, 0, 20, 300, -12, 0);
        Due.board(y, "slip 1 u=12;slip 2 u=6;slip 4 l=30;slip 8 l=28;slip 16 s=1;slip 32 s=2");
        lies(y, "OVER", 280, 6 + 21, 0);
        CutCrooked z = lying(0, 9, 9, 20, 300, 0, 0);
        Due.board(z, "pull 1 u=0;pull 2 u=9;pull 4 l=30;pull 8 l=28;pull 16 s=1;pull 32 s=2;slip 5 s=1");
        lies(z, "CUTTER", 280, 14, 9 + 21);
    }

    /** "Both held to -99 .. 99" (promises 10, 13, 14, 27, 30). */
    private static void heldTo99() {
        DUE.part("held");
        int[] edge = {97, 98, 99, -97, -98, -99};
        int[] more = {1, 2, -1, -2};
        for (int from : edge) {
            for (int by : more) {
                int then = Math.max(-99, Math.min(99, from + by));
                lies(lying(3, by, 0, 20, 300, from, 0), "UP " + from + " by " + by, 280, then, 0);
                lies(lying(3, 0, by, 20, 300, 0, from), "SIDE " + from + " by " + by, 280, 0, then);
                lies(lying(6, 0, by, 20, 300, 0, from), "TOLD, SIDE " + from + " by " + by, 280, 0, then);
                CutCrooked x = lying(6, 0, 0, 20, 300, from, 0);
                x.row(0, 1, 4 + by);
                lies(x, "TOLD, UP " + from + " by " + by, 280, then, 0);
            }
        }
        int[][] slips = {{0, 98}, {0, 99}, {1, 98}, {1, 99}, {9, 89}, {9, 90}, {9, 91}, {-9, 99}, {9, 99}};
        for (int[] slip : slips) {
            CutCrooked x = lying(0, slip[0], slip[0], 20, 300, 0, 0);
            Due.board(x, "slip " + slip[1] + " s=1;pull " + slip[1] + " s=1");
            int then = Math.min(99, slip[0] + slip[1]);
            lies(x, slip[0] + " and " + slip[1], 280, then, then);
        }
        CutCrooked y = lying(3, 9, 9, 20, 400, 99, 99);
        Due.board(y, "slip 99 s=1;slip 99 s=1;slip 99 s=1;pull 99 s=1;pull 99 s=1;pull 99 s=1");
        DUE.is("as it lay", y.again(0), 1);
        lies(y, "three of 99", 380, 99, 99);
    }

    /** It is held once all is added: what is beyond -99 counts against the n of slip and pull. */
    private static void heldAtTheEndAlone() {
        DUE.part("held at the end");
        CutCrooked x = lying(3, -9, -9, 20, 300, -99, -99);
        Due.board(x, "slip 20 s=1;pull 8 s=1");
        lies(x, "from -99", 280, -88, -99);
        CutCrooked y = lying(3, -9, -9, 20, 300, -99, -99);
        Due.board(y, "slip 9 s=1;pull 10 s=1");
        lies(y, "from -99", 280, -99, -98);
        CutCrooked z = lying(3, 9, -9, 20, 300, 99, -90);
        Due.board(z, "slip 5 s=1;pull 1 s=1;pull 1 s=1");
        lies(z, "from 99", 280, 99, -97);
    }

    /** "THE SLICE: at each CORNER the old one less the new one, 0 at least" (promises 10, 13 to 15, 17, 23, 32, 34). */
    private static void edgesAre0AtLeast() {
        DUE.part("0 at least");
        int[] by = {4, 5, 6, 9, -4, -5, -6, -9};
        int[] least = {1, 0, 0, 0, 1, 0, 0, 0};
        int[] most = {9, 10, 11, 14, 9, 10, 11, 14};
        int[] weight = {20, 20, 22, 28, 20, 20, 22, 28};
        for (int i = 0; i < by.length; i++) {
            slice(lying(0, by[i], 0, 5, 300, 0, 0), "U " + by[i], weight[i], least[i], most[i]);
            slice(lying(0, 0, by[i], 5, 300, 0, 0), "S " + by[i], weight[i], least[i], most[i]);
            slice(lying(1, 0, 0, 5, 300, by[i], 0), "UP " + by[i], weight[i], least[i], most[i]);
            slice(lying(1, 0, 0, 5, 300, 0, by[i]), "SIDE " + by[i], weight[i], least[i], most[i]);
        }
        // 5 by 9 and 9: 5, -13, 23, 5.
        slice(lying(0, 9, 9, 5, 300, 0, 0), "both", 33, 0, 23);
        // 1 by 1 and 0: 0, 0, 2, 2.
        slice(lying(0, 1, 0, 1, 300, 0, 0), "1 by 1", 4, 0, 2);
        // 5 by 3 and -1: 1, 3, 7, 9; by 3 and 2: 4, 0, 10, 6.
        slice(lying(0, 3, -1, 5, 300, 0, 0), "3 and -1", 20, 1, 9);
        slice(lying(0, 3, 2, 5, 300, 0, 0), "3 and 2", 20, 0, 10);
        // Each CORNER in turn is the greatest, and the one across it the least.
        int[][] slants = {{-3, 1}, {-3, -1}, {3, 1}, {3, -1}};
        for (int[] slant : slants) {
            slice(lying(0, slant[0], slant[1], 5, 300, 0, 0), slant[0] + " and " + slant[1], 20, 1, 9);
            slice(lying(1, 0, 0, 5, 300, slant[0], slant[1]), "from " + slant[0] + " and " + slant[1], 20, 1, 9);
            slice(lying(0, 2 * slant[0], 2 * slant[1], 5, 300, 0, 0), "twice", 23, 0, 13);
        }
    }

    private static void slice(CutCrooked x, String how, int weight, int least, int most) {
        DUE.is("would(0, 0) " + how, x.would(0, 0), weight);
        DUE.is("would(0, 1) " + how, x.would(0, 1), least);
        DUE.is("would(0, 2) " + how, x.would(0, 2), most);
        DUE.is("on(1, 10) " + how, x.on(1, 10), weight);
        DUE.is("toasted, inside " + how, x.toasted(1, most), 1);
        DUE.is("toasted, beyond " + how, x.toasted(1, most - 1), 0);
        DUE.is("on(1, 5) " + how, x.on(1, 5), least >= 3 ? 1 : 0);
        x.book(-1, 0);
        x.book(0, least);
        DUE.is("looked() " + how, x.looked(), -5);
        x.book(-1, 0);
        x.book(0, least + 1);
        DUE.is("looked(), one more " + how, x.looked(), 0);
        int eaten = x.of(0, 5);
        DUE.is("cut(0) " + how, x.cut(0), weight);
        DUE.is("of(0, 5) " + how, x.of(0, 5), eaten + weight);
        DUE.is("evener(0, 1) " + how, x.evener(0, 1), Math.abs(weight - x.of(1, 5)));
    }

    /** "the old one (behind RIGHT, OVER)" (promises 10, 13). */
    private static void sliceIsBehindRightAndOver() {
        DUE.part("behind RIGHT, OVER");
        slice(lying(4, 0, 0, 5, 300, 40, -30), "RIGHTING", 20, 5, 5);
        // From 30 turned to -30 and left at -15: 5 less 15, 5 more 15.
        slice(lying(5, 0, 0, 5, 300, 30, 0), "OVER", 40, 0, 20);
        // From -30 turned to 30 and left at 15.
        slice(lying(5, 0, 0, 20, 300, -30, 0), "OVER", 80, 5, 35);
        slice(lying(2, 0, 0, 20, 300, 30, 0), "SLANT", 80, 5, 35);
    }

    /** "It is GOOD, if LEAST is THIN or more" (promises 14, 19, 20, 21, 31). */
    private static void goodByThin() {
        DUE.part("GOOD");
        for (int thick = 19; thick <= 21; thick++) {
            int good = thick < 20 ? 0 : 1;
            CutCrooked x = lying(1, 0, 0, thick, 300, 0, 0);
            Due.board(x, "thin 20");
            DUE.is("on(1, 5)", x.on(1, 5), good);
            DUE.is("on(1, 4)", x.on(1, 4), 1);
            DUE.is("odds(1, 0)", x.odds(1, 0), good);
            DUE.is("odds(1, 1)", x.odds(1, 1), good == 1 ? 2 : 1);
            DUE.is("enough(0)", x.enough(0), 20);
            DUE.is("cut(0)", x.cut(0), 4 * thick);
        }
        int[][] guides = {{23, 0}, {24, 1}, {25, 1}, {27, 1}, {28, 1}, {29, 0}, {30, 0}};
        for (int[] guide : guides) {
            CutCrooked x = lying(0, 9, 0, guide[0], 300, 0, 0);
            Due.board(x, "thin 20");
            // LEAST is 9 below THICK, 4 below it by the guide.
            DUE.is("guide(1) of " + guide[0], x.guide(1), guide[1]);
        }
        int[][] whens = {{19, -5}, {20, 0}, {21, 0}, {28, 0}, {29, -5}, {30, -5}};
        for (int[] when : whens) {
            CutCrooked x = lying(1, 0, 0, when[0], 300, 9, 0);
            Due.board(x, "thin 20");
            DUE.is("when(1, 0) of " + when[0], x.when(1, 0), when[1]);
            DUE.is("when(1, 1) of " + when[0], x.when(1, 1), when[1] < 0 ? -5 : 1);
        }
        int[][] enough = {{9, 12}, {4, 7}, {0, 3}, {-9, 12}};
        for (int[] e : enough) {
            DUE.is("enough(0) by " + e[0], lying(0, e[0], 0, 1, 300, 0, 0).enough(0), e[1]);
        }
    }

    private static void thinOf0() {
        DUE.part("THIN 0 and 1");
        for (int thin = 0; thin <= 1; thin++) {
            CutCrooked x = lying(0, 9, 0, 5, 300, 0, 0);
            Due.board(x, "thin " + thin);
            DUE.is("LEAST", x.would(0, 1), 0);
            DUE.is("on(1, 5)", x.on(1, 5), 1 - thin);
            DUE.is("odds(1, 0)", x.odds(1, 0), 1);
            DUE.is("odds(1, 1)", x.odds(1, 1), 1 + thin);
            DUE.is("enough(0)", x.enough(0), thin == 0 ? 1 : 10);
            DUE.is("guide(1)", x.guide(1), thin);
        }
    }

    /** "It can be cut, if the least CORNER of the new FACE is END or more" (promises 10, 13 to 24, 27, 30 to 32, 34). */
    private static void canBeCutByEnd() {
        for (int over = -1; over <= 1; over++) {
            DUE.part("END and " + over);
            boolean can = over >= 0;
            int at = 50 + over;
            CutCrooked x = new CutCrooked();
            x.cutter(1, 0, 0, 0, 20);
            Due.board(x, "end 30;thin 20");
            x.loaf(at);
            DUE.is("would(0, 0)", x.would(0, 0), can ? 80 : -10005);
            DUE.is("would(0, 1)", x.would(0, 1), can ? 20 : -10005);
            DUE.is("would(0, 2)", x.would(0, 2), can ? 20 : -10005);
            DUE.is("would(0, 3)", x.would(0, 3), can ? at - 20 : -10005);
            DUE.is("would(0, 4)", x.would(0, 4), can ? 0 : -10005);
            DUE.is("would(0, 5)", x.would(0, 5), can ? 0 : -10005);
            DUE.is("would(0, 6)", x.would(0, 6), can ? 0 : -10005);
            for (int n : new int[] {1, 2, 40}) {
                DUE.is("on(n, 0)", x.on(n, 0), can ? at - 20 : at);
                DUE.is("on(n, 4)", x.on(n, 4), can ? 1 : 0);
                DUE.is("on(n, 5)", x.on(n, 5), can ? 1 : 0);
                DUE.is("on(n, 10)", x.on(n, 10), can ? 80 : 0);
                DUE.is("toasted(n, 20)", x.toasted(n, 20), can ? 1 : 0);
            }
            DUE.is("lasts()", x.lasts(), can ? 1 : 0);
            DUE.is("order(-1)", x.order(-1), can ? 0 : -5);
            DUE.is("order(0)", x.order(0), can ? 0 : -5);
            DUE.is("enough(0)", x.enough(0), can ? 20 : -5);
            DUE.is("again(0)", x.again(0), 1);
            DUE.is("who()", x.who(), can ? 1 : 0);
            x.week(0);
            DUE.is("rows(-1)", x.rows(-1), can ? 1 : 0);
            DUE.is("rows(0)", x.rows(0), can ? 0 : -5);
            DUE.is("odds(1, 0)", x.odds(1, 0), can ? 1 : 0);
            DUE.is("mean(0)", x.mean(0), can ? 80 : 0);
            x.book(0, 20);
            DUE.is("looked()", x.looked(), can ? -5 : 0);
            x.thick(0, 10);
            DUE.is("cancel(), of two", x.cancel(), can ? 0 : -5);
            DUE.is("on(2, 4), of two", x.on(2, 4), can ? 2 : 1);
            x.thick(0, 20);
            x.cutter(1, 0, 0, 0, 40);
            DUE.is("evener(1, 1)", x.evener(1, 1), can ? 80 : 0);
            DUE.is("cut(0)", x.cut(0), can ? 80 : -3);
            DUE.is("told(1)", x.told(1), can ? at - 20 : at);
            DUE.is("told(4)", x.told(4), can ? 1 : 0);
            DUE.is("of(0, 5)", x.of(0, 5), can ? 80 : 0);
        }
    }

    /** The least CORNER, not AT; of the new FACE, not of the old one (promises 10, 13, 16, 20, 21). */
    private static void endByTheLeastCorner() {
        DUE.part("the least corner and END");
        int[][] slants = {{3, 2}, {3, -2}, {-3, 2}, {-3, -2}};
        for (int[] slant : slants) {
            for (int at = 64; at <= 66; at++) {
                CutCrooked x = new CutCrooked();
                x.cutter(0, 0, slant[0], slant[1], 20);
                Due.board(x, "end 40");
                x.loaf(at);
                DUE.is("would(0, 3) from " + at, x.would(0, 3), at == 64 ? -10005 : at - 20);
                DUE.is("lasts() from " + at, x.lasts(), at == 64 ? 0 : 1);
                DUE.is("cut(0) from " + at, x.cut(0), at == 64 ? -3 : 80);
            }
        }
        CutCrooked y = lying(1, 0, 0, 5, 50, 30, 0);
        Due.board(y, "end 45");
        DUE.is("the old least one is 20", y.would(0, 3), 45);
        CutCrooked z = lying(4, 0, 0, 5, 50, 30, 0);
        Due.board(z, "end 15");
        DUE.is("RIGHT makes 20 of it", z.would(0, 3), 15);
        Due.board(z, "end 16");
        DUE.is("RIGHT makes 20 of it", z.would(0, 3), -10005);
        int[][] guides = {{53, 0}, {54, 1}, {58, 1}, {59, 0}};
        for (int[] guide : guides) {
            CutCrooked x = new CutCrooked();
            x.cutter(0, 0, 9, 0, 20);
            Due.board(x, "end 30");
            x.loaf(guide[0]);
            DUE.is("guide(1) from " + guide[0], x.guide(1), guide[1]);
        }
    }

    private static void endOf0() {
        DUE.part("END 0");
        for (int u = -1; u <= 1; u++) {
            CutCrooked x = new CutCrooked();
            x.cutter(0, 0, u, 0, 40);
            Due.board(x, "end 0");
            x.loaf(40);
            DUE.is("a CORNER of 0", x.cut(0), u == 0 ? 160 : -3);
            DUE.is("told(1)", x.told(1), u == 0 ? 0 : 40);
            DUE.is("right()", x.right(), 0);
            x.thick(0, 1);
            DUE.is("would(0, 0)", x.would(0, 0), u == 0 ? -10005 : 4);
            DUE.is("again(0)", x.again(0), u == 0 ? 1 : -5);
        }
    }

    /** A game's three ways by END, each inside it and beyond it (promise 24). */
    private static void endInAGame() {
        DUE.part("END in a game");
        int[][] games = {{44, 0, -5}, {45, 60, 2}, {49, 60, 2}, {50, 80, 0}, {54, 80, 0}, {55, 100, 1}, {56, 100, 1}};
        for (int[] game : games) {
            CutCrooked x = new CutCrooked();
            x.cutter(1, 0, 0, 0, 20);
            x.cutter(1, 0, 0, 0, 40);
            Due.board(x, "end 30");
            x.loaf(game[0]);
            DUE.is("game(0, 1, 1, 0) from " + game[0], x.game(0, 1, 1, 0), game[1]);
            DUE.is("game(0, 1, 1, 1) from " + game[0], x.game(0, 1, 1, 1), game[2]);
        }
    }

    /** "STATE: the least CORNER is below END" (promise 11). */
    private static void rightByEnd() {
        DUE.part("right by END");
        int[][] slopes = {{0, 0}, {9, 0}, {-9, 0}, {0, 9}, {0, -9}, {5, -4}, {-5, 4}};
        for (int[] slope : slopes) {
            int off = Math.abs(slope[0]) + Math.abs(slope[1]);
            for (int end = 39; end <= 41; end++) {
                CutCrooked x = lying(0, 0, 0, 1, 40 + off, slope[0], slope[1]);
                Due.board(x, "end " + end);
                boolean can = end <= 40;
                DUE.is("right() by END " + end, x.right(), can ? 4 * off : -3);
                DUE.is("told(1)", x.told(1), can ? 40 : 40 + off);
                DUE.is("told(2)", x.told(2), can ? 0 : slope[0]);
                DUE.is("told(3)", x.told(3), can ? 0 : slope[1]);
                DUE.is("told(4)", x.told(4), 1);
                DUE.is("told(5)", x.told(5), can ? 4 * off : 0);
                DUE.is("right() again", x.right(), can ? 0 : -3);
            }
        }
    }

    /** "(else nothing is done, RIGHT and OVER neither)" (promises 10, 13, 14). */
    private static void nothingIsDoneElse() {
        DUE.part("nothing is done else");
        for (int kind = 0; kind < 7; kind++) {
            CutCrooked x = lying(kind, 1, 1, 20, 60, 7, -2);
            Due.board(x, "end 41");
            DUE.is("cut(0) of kind " + kind, x.cut(0), -3);
            int[] due = {61, 60, 7, -2, 1, 0};
            for (int what = 0; what < due.length; what++) {
                DUE.is("told(" + what + ") of kind " + kind, x.told(what), due[what]);
            }
            DUE.is("of(0, 5)", x.of(0, 5), 0);
            DUE.is("would(0, 6) of kind " + kind, x.would(0, 6), -10005);
            DUE.is("on(1, 0) of kind " + kind, x.on(1, 0), 60);
            DUE.is("on(1, 1) of kind " + kind, x.on(1, 1), 7);
            DUE.is("on(1, 3) of kind " + kind, x.on(1, 3), 0);
            DUE.is("on(1, 4) of kind " + kind, x.on(1, 4), 0);
        }
    }

    /** "EATEN is WEIGHT more; SLICES are 1 more" (promises 5, 9, 10, 14). */
    private static void eatenAndSlicesAreMore() {
        DUE.part("EATEN and SLICES");
        CutCrooked x = lying(0, 9, 9, 4, 300, 0, 0);
        // 4 by 18 less and more: 4, none, 22, 4; then straight on.
        DUE.is("cut(0)", x.cut(0), 30);
        DUE.is("of(0, 5)", x.of(0, 5), 30);
        DUE.is("told(4)", x.told(4), 2);
        DUE.is("on(1, 10)", x.on(1, 10), 16);
        DUE.is("cut(0)", x.cut(0), 16);
        DUE.is("of(0, 5)", x.of(0, 5), 46);
        DUE.is("told(4)", x.told(4), 3);
        DUE.is("of(1, 5)", x.of(1, 5), 4);
    }
}
