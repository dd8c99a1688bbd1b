/** Terms 2, what is told by hand, odds, acts, and the image: each edge by a step inside it and one beyond. */
public final class SeenEdgesTest {
    private static final Due DUE = new Due();
    private static final int MIN = Integer.MIN_VALUE;
    private static final int MAX = Integer.MAX_VALUE;

    public static void main(String[] args) {
        seenIs0BothAtFirst();
        whoByBits();
        week4AtMost();
        clearEmpties();
        rowsOfAnEmptyWeek();
        rowsByK();
        rowsOfAllLengths();
        rowsFirstByNumbers();
        oddsFrom1To3();
        oddsInLowestTerms();
        oddsAllMadeAndGood();
        meanOfNobodyAndOfNone();
        meanInLowestTerms();
        book8AtMost();
        bookLeast0To999();
        bookMinus1();
        lookedAtTheFirst();
        lookedGoesOn();
        actsOfNobody();
        actsWrap();
        actsFromTheLeftOn();
        actsByKind();
        traceFrom0();
        kindsAndThoseUnderThem();
        noImage();
        imageIsAll();
        imageStays();
        DUE.end();
    }

    private static CutCrooked straight(int... thick) {
        CutCrooked x = new CutCrooked();
        for (int t : thick) {
            x.cutter(1, 0, 0, 0, t);
        }
        return x;
    }

    /** "SEEN becomes an UP, a SIDE (-99 .. 99 each; 0 both at first): 1" (promises 26, 27). */
    private static void seenIs0BothAtFirst() {
        DUE.part("seen");
        CutCrooked x = straight(5);
        DUE.is("0 both at first", x.who(), 1);
        int[] all = {MIN, -100, -99, -98, -1, 0, 1, 98, 99, 100, MAX};
        for (int up : all) {
            for (int side : all) {
                x.see(5, 5);
                boolean good = up >= -99 && up <= 99 && side >= -99 && side <= 99;
                DUE.is("see(" + up + ", " + side + ")", x.see(up, side), good ? 1 : -2);
                DUE.is("who()", x.who(), up == 0 && side == 0 ? 1 : 0);
            }
        }
        x.see(0, 0);
        x.see(100, 0);
        x.see(0, -100);
        x.see(7, 100);
        DUE.is("a refused one changes nothing", x.who(), 1);
    }

    /** "CUTTERS, as bits, by whose CUT now UP and SIDE would be just so" (promise 27). */
    private static void whoByBits() {
        DUE.part("who");
        DUE.is("nobody", new CutCrooked().who(), 0);
        int[] upBits = {1, 3, 7, 15, 31, 63};
        CutCrooked x = new CutCrooked();
        for (int i = 0; i < 6; i++) {
            x.cutter(0, 0, 3, -4, 5);
            x.see(3, -4);
            DUE.is("all of " + (i + 1), x.who(), upBits[i]);
            for (int[] beside : new int[][] {{2, -4}, {4, -4}, {3, -5}, {3, -3}, {-3, -4}, {3, 4}}) {
                x.see(beside[0], beside[1]);
                DUE.is("a step beside it", x.who(), 0);
            }
        }
        CutCrooked y = straight(29, 30, 31, 30, 1, 40);
        y.loaf(40);
        DUE.is("who can be cut till END", y.who(), 1 + 2 + 8 + 16);
    }

    /** "UP behind CUTS 1, 2 .. 4 from now"; "FULL: 4" (promises 28, 40). */
    private static void week4AtMost() {
        DUE.part("week");
        CutCrooked x = straight(5);
        for (int i = 1; i <= 4; i++) {
            DUE.is("week(0)", x.week(0), i);
            DUE.is("count(2)", x.count(2), i);
            DUE.is("BAD", x.week(100), -2);
            DUE.is("count(2)", x.count(2), i);
        }
        DUE.is("the fifth", x.week(0), -4);
        DUE.is("the fifth", x.week(99), -4);
        DUE.is("BAD ahead of FULL", x.week(-100), -2);
        DUE.is("BAD ahead of FULL", x.week(100), -2);
        DUE.is("count(2)", x.count(2), 4);
        DUE.is("the fifth changes nothing", x.rows(-1), 1);
        int[] ups = {MIN, -100, -99, 99, 100, MAX};
        int[] due = {-2, -2, 1, 2, -2, -2};
        CutCrooked y = new CutCrooked();
        for (int i = 0; i < ups.length; i++) {
            DUE.is("week(" + ups[i] + ")", y.week(ups[i]), due[i]);
        }
    }

    /** "WEEK is empty: how many there were" (promise 29). */
    private static void clearEmpties() {
        DUE.part("clear");
        CutCrooked x = straight(5);
        for (int many = 0; many <= 4; many++) {
            for (int i = 0; i < many; i++) {
                x.week(7);
            }
            DUE.is("rows(-1) of " + many, x.rows(-1), many == 0 ? 1 : 0);
            DUE.is("clear() of " + many, x.clear(), many);
            DUE.is("count(2)", x.count(2), 0);
            DUE.is("clear() again", x.clear(), 0);
            DUE.is("rows(-1) of none", x.rows(-1), 1);
        }
    }

    /** "(WEEK empty: 1)" (promise 30). */
    private static void rowsOfAnEmptyWeek() {
        DUE.part("rows, empty");
        for (int many = 0; many <= 2; many++) {
            CutCrooked x = straight(5, 5);
            CutCrooked one = many == 0 ? new CutCrooked() : many == 1 ? straight(5) : x;
            DUE.is("rows(-1)", one.rows(-1), 1);
            for (int k = 0; k < 4; k++) {
                DUE.is("rows(" + k + ")", one.rows(k), -5);
            }
            one.week(0);
            DUE.is("one", one.rows(-1), many);
            DUE.is("one", one.rows(0), many == 0 ? -5 : 0);
            one.clear();
            DUE.is("empty again", one.rows(-1), 1);
            DUE.is("empty again", one.rows(0), -5);
        }
    }

    /** "k -1 how many, else the k-th; -5. NONE: k (-1 .. 3)" (promise 30). */
    private static void rowsByK() {
        DUE.part("rows by k");
        CutCrooked x = straight(5);
        int[] ks = {MIN, -2, -1, 0, 1, 2, 3, 4, 5, MAX};
        for (int size = 0; size <= 4; size++) {
            for (int k : ks) {
                int due = k < -1 || k > 3 ? -1 : k == -1 ? 1 : k < size ? 0 : -5;
                DUE.is("rows(" + k + ") of " + size, x.rows(k), due);
            }
            x.week(0);
        }
        x.clear();
        x.week(1);
        for (int k : ks) {
            int due = k < -1 || k > 3 ? -1 : k == -1 ? 0 : -5;
            DUE.is("rows(" + k + ") of none", x.rows(k), due);
        }
    }

    /** "in how many rows of CUTTERS, each any": one cutter and six, one day and four (promise 30). */
    private static void rowsOfAllLengths() {
        DUE.part("rows of all lengths");
        for (int many = 1; many <= 6; many++) {
            CutCrooked x = new CutCrooked();
            for (int i = 0; i < many; i++) {
                x.cutter(0, 0, 2, 0, 5);
            }
            int all = 1;
            for (int size = 1; size <= 4; size++) {
                x.week(2);
                all *= many;
                DUE.is("rows(-1) of " + many + " and " + size, x.rows(-1), all);
            }
            x.clear();
            x.week(2);
            x.week(3);
            DUE.is("the second can not be", x.rows(-1), 0);
        }
        // Three times 30 leave 10 of 100: the fourth can not be.
        for (int length = 99; length <= 101; length++) {
            CutCrooked y = straight(30);
            y.loaf(length);
            y.week(0);
            y.week(0);
            y.week(0);
            DUE.is("three of " + length, y.rows(-1), length < 100 ? 0 : 1);
            y.week(0);
            DUE.is("four of " + length, y.rows(-1), 0);
        }
    }

    /** "the k-th of the first such row (by numbers; -5)" (promise 30). */
    private static void rowsFirstByNumbers() {
        DUE.part("the first row");
        CutCrooked x = new CutCrooked();
        x.cutter(3, 0, 2, 0, 5);
        x.cutter(0, 0, 2, 0, 5);
        x.cutter(3, 0, -2, 0, 5);
        x.cutter(0, 0, 4, 0, 5);
        x.week(2);
        DUE.is("0 or 1", x.rows(-1), 2);
        DUE.is("0", x.rows(0), 0);
        x.week(4);
        DUE.is("each, then 0 or 3", x.rows(-1), 4);
        DUE.is("0", x.rows(1), 0);
        x.week(2);
        DUE.is("each, each, then 1 or 2", x.rows(-1), 8);
        DUE.is("1", x.rows(2), 1);
        x.week(0);
        DUE.is("then 2", x.rows(-1), 8);
        int[] due = {0, 0, 1, 2};
        for (int k = 0; k < 4; k++) {
            DUE.is("rows(" + k + ")", x.rows(k), due[k]);
        }
        CutCrooked y = new CutCrooked();
        y.cutter(0, 0, 2, 0, 5);
        y.cutter(0, 0, 2, 0, 5);
        y.cutter(1, 0, 0, 0, 5);
        Due.board(y, "pull 1 c=0;slip 1 c>1&s=1");
        y.week(2);
        y.week(1);
        DUE.is("behind a row that leads nowhere, too", y.rows(1), 2);
        y.clear();
        Due.board(y, "slip 90 c=0;slip 7 c=1&s=1");
        y.week(92);
        y.week(9);
        DUE.is("rows(0)", y.rows(0), 0);
        DUE.is("rows(1)", y.rows(1), 1);
    }

    /** "ODDS of n CUTS (1 .. 3)"; "NO: n, part, nobody" (promise 31). */
    private static void oddsFrom1To3() {
        DUE.part("odds");
        CutCrooked x = straight(5, 2);
        int[] ns = {MIN, -1, 0, 1, 2, 3, 4, MAX};
        long[] below = {CutCrooked.NO, CutCrooked.NO, CutCrooked.NO, 2, 4, 8, CutCrooked.NO, CutCrooked.NO};
        for (int i = 0; i < ns.length; i++) {
            DUE.is("odds(" + ns[i] + ", 0)", x.odds(ns[i], 0), below[i] < 0 ? CutCrooked.NO : 1);
            DUE.is("odds(" + ns[i] + ", 1)", x.odds(ns[i], 1), below[i]);
            for (int part : new int[] {MIN, -1, 2, MAX}) {
                DUE.is("odds(" + ns[i] + ", " + part + ")", x.odds(ns[i], part), CutCrooked.NO);
            }
            for (int part = 0; part <= 1; part++) {
                DUE.is("nobody", new CutCrooked().odds(ns[i], part), CutCrooked.NO);
            }
        }
    }

    /** "a fraction in lowest terms": none, all, and between (promise 31). */
    private static void oddsInLowestTerms() {
        DUE.part("odds in lowest terms");
        for (int good = 0; good <= 6; good++) {
            CutCrooked x = new CutCrooked();
            for (int i = 0; i < 6; i++) {
                x.cutter(1, 0, 0, 0, i < good ? 3 : 2);
            }
            int[][] lowest = {{0, 1}, {1, 6}, {1, 3}, {1, 2}, {2, 3}, {5, 6}, {1, 1}};
            int above = 1;
            int below = 1;
            for (int n = 1; n <= 3; n++) {
                above *= lowest[good][0];
                below *= lowest[good][1];
                DUE.is("odds(" + n + ", 0) of " + good, x.odds(n, 0), above);
                DUE.is("odds(" + n + ", 1) of " + good, x.odds(n, 1), below);
            }
        }
    }

    /** "how likely all n can be made and are GOOD" (promise 31). */
    private static void oddsAllMadeAndGood() {
        DUE.part("odds, all made and GOOD");
        int[][] due = {{49, 1, 1, 0}, {50, 1, 1, 0}, {69, 1, 1, 0}, {70, 1, 1, 1}, {71, 1, 1, 1}};
        for (int[] d : due) {
            CutCrooked x = straight(20);
            x.loaf(d[0]);
            DUE.is("odds(1, 0) from " + d[0], x.odds(1, 0), 1);
            DUE.is("odds(2, 0) from " + d[0], x.odds(2, 0), d[0] < 50 ? 0 : 1);
            DUE.is("odds(3, 0) from " + d[0], x.odds(3, 0), d[3]);
            DUE.is("odds(3, 1) from " + d[0], x.odds(3, 1), 1);
        }
        CutCrooked y = straight(20);
        Due.board(y, "slip 18 s=2");
        DUE.is("the third is not GOOD", y.odds(3, 0), 0);
        DUE.is("two are", y.odds(2, 0), 1);
        Due.board(y, "slip 17 s=2");
        DUE.is("the third is just GOOD", y.odds(3, 0), 1);
    }

    /** "(0, if it can not be cut) (NO: nobody)" (promise 32). */
    private static void meanOfNobodyAndOfNone() {
        DUE.part("mean");
        for (int part : new int[] {MIN, -1, 0, 1, 2, MAX}) {
            DUE.is("nobody: mean(" + part + ")", new CutCrooked().mean(part), CutCrooked.NO);
        }
        CutCrooked x = straight(31);
        x.loaf(40);
        DUE.is("mean(0) of one who can not", x.mean(0), 0);
        DUE.is("mean(1) of one who can not", x.mean(1), 1);
        x.thick(0, 30);
        DUE.is("mean(0) of one who can", x.mean(0), 120);
        DUE.is("mean(1) of one who can", x.mean(1), 1);
        x.cutter(1, 0, 0, 0, 31);
        DUE.is("mean(0) of both", x.mean(0), 60);
        DUE.is("mean(1) of both", x.mean(1), 1);
        for (int part : new int[] {MIN, -1, 2, MAX}) {
            DUE.is("mean(" + part + ")", x.mean(part), CutCrooked.NO);
        }
    }

    private static void meanInLowestTerms() {
        DUE.part("mean in lowest terms");
        int[][] due = {{4, 1}, {6, 1}, {8, 1}, {10, 1}, {12, 1}, {14, 1}};
        CutCrooked x = new CutCrooked();
        for (int i = 0; i < 6; i++) {
            x.cutter(1, 0, 0, 0, i + 1);
            DUE.is("mean(0) of " + (i + 1), x.mean(0), due[i][0]);
            DUE.is("mean(1) of " + (i + 1), x.mean(1), due[i][1]);
        }
        CutCrooked y = straight(1, 1, 2);
        DUE.is("16 of 3", y.mean(0), 16);
        DUE.is("16 of 3", y.mean(1), 3);
        y.cutter(0, 0, 2, 0, 1);
        // 1 by 2: none, none, 3 and 3: 22 of 4.
        DUE.is("22 of 4", y.mean(0), 11);
        DUE.is("22 of 4", y.mean(1), 2);
        y.cutter(1, 0, 0, 0, 2);
        y.cutter(1, 0, 0, 0, 7);
        DUE.is("58 of 6", y.mean(0), 29);
        DUE.is("58 of 6", y.mean(1), 3);
    }

    /** "8 at most" (promises 33, 40). */
    private static void book8AtMost() {
        DUE.part("book of 8");
        CutCrooked x = straight(5);
        for (int i = 1; i <= 8; i++) {
            DUE.is("book(0, 5)", x.book(0, 5), i);
            DUE.is("count(3)", x.count(3), i);
        }
        DUE.is("the ninth", x.book(0, 5), -4);
        DUE.is("NONE ahead of FULL", x.book(1, 5), -1);
        DUE.is("NONE ahead of BAD and FULL", x.book(1, 1000), -1);
        DUE.is("BAD ahead of FULL", x.book(0, 1000), -2);
        DUE.is("BAD ahead of FULL", x.book(0, -1), -2);
        DUE.is("count(3)", x.count(3), 8);
        DUE.is("looked()", x.looked(), -5);
        DUE.is("none then", x.book(-1, 0), 0);
        DUE.is("from the first again", x.book(0, 5), 1);
    }

    /** "BAD: least (0 .. 999)" (promise 33). */
    private static void bookLeast0To999() {
        DUE.part("book, least");
        int[] all = {MIN, -1, 0, 1, 998, 999, 1000, MAX};
        int[] due = {-2, -2, 1, 1, 1, 1, -2, -2};
        for (int i = 0; i < all.length; i++) {
            DUE.is("book(0, " + all[i] + ")", straight(5).book(0, all[i]), due[i]);
            DUE.is("nobody: book(0, " + all[i] + ")", new CutCrooked().book(0, all[i]), -1);
            DUE.is("book(-2, " + all[i] + ")", straight(5).book(-2, all[i]), -1);
        }
    }

    /** "(cutter -1: none then, 0, whatever the other is)" (promise 33). */
    private static void bookMinus1() {
        DUE.part("book of -1");
        for (int least : new int[] {MIN, -1, 0, 999, 1000, MAX}) {
            CutCrooked x = straight(5);
            DUE.is("an empty one", x.book(-1, least), 0);
            x.book(0, 4);
            DUE.is("looked()", x.looked(), 0);
            DUE.is("one of one", x.book(-1, least), 0);
            DUE.is("count(3)", x.count(3), 0);
            DUE.is("looked()", x.looked(), -5);
            DUE.is("nobody", new CutCrooked().book(-1, least), 0);
        }
    }

    /** "the first that is not so, or can not be cut (-5: none)" (promise 34). */
    private static void lookedAtTheFirst() {
        DUE.part("looked at");
        DUE.is("an empty BOOK", new CutCrooked().looked(), -5);
        for (int wrong = 0; wrong <= 8; wrong++) {
            for (int by = -1; by <= 1; by++) {
                CutCrooked x = straight(5, 7);
                for (int i = 0; i < 8; i++) {
                    x.book(i % 2, (i % 2 == 0 ? 5 : 7) + (i >= wrong ? by : 0));
                }
                DUE.is("wrong from " + wrong + " by " + by, x.looked(), wrong == 8 || by == 0 ? -5 : wrong);
            }
        }
        // 8 times 5 leave END of 50.
        for (int length = 44; length <= 51; length++) {
            CutCrooked x = straight(5);
            for (int i = 0; i < 8; i++) {
                x.book(0, 5);
            }
            x.loaf(length);
            DUE.is("a loaf of " + length, x.looked(), length >= 50 ? -5 : length >= 45 ? 7 : 6);
        }
        CutCrooked y = new CutCrooked();
        y.cutter(0, 0, 9, 0, 5);
        y.book(0, 0);
        DUE.is("LEAST of 0", y.looked(), -5);
        y.book(0, 4);
        DUE.is("it lies so then", y.looked(), 1);
    }

    /** It goes on from how all is now, one behind the other (promise 34). */
    private static void lookedGoesOn() {
        DUE.part("looked goes on");
        CutCrooked x = new CutCrooked();
        x.cutter(0, 0, 4, 0, 9);
        x.cutter(1, 0, 0, 0, 9);
        x.book(0, 5);
        x.book(0, 9);
        x.book(1, 5);
        x.book(1, 9);
        DUE.is("all are so", x.looked(), -5);
        x.cut(0);
        DUE.is("now the first is not", x.looked(), 0);
        x.cut(1);
        DUE.is("straight again", x.looked(), -5);
        DUE.is("nothing is cut by it", x.told(4), 2);
    }

    /** "0, and no TRACE then: no such CUTTER, act" (promises 35, 36, 40). */
    private static void actsOfNobody() {
        DUE.part("acts of nobody");
        int[][] wrong = {{MIN, 0}, {-1, 0}, {1, 0}, {6, 0}, {MAX, 0}, {0, MIN}, {0, -1}, {0, 3}, {0, MAX}, {1, 3}};
        for (int[] w : wrong) {
            CutCrooked x = new CutCrooked();
            x.cutter(0, 5, 0, 0, 1);
            DUE.is("act(0, 2, 9)", x.act(0, 2, 9), 8);
            DUE.is("count(5)", x.count(5), 3);
            DUE.is("act(" + w[0] + ", " + w[1] + ", 9)", x.act(w[0], w[1], 9), 0);
            DUE.is("no TRACE then", x.count(5), 0);
            DUE.is("no TRACE then", x.trace(0), -1);
            DUE.is("act(0, 0, 9)", x.act(0, 0, 9), 9);
            DUE.is("count(5)", x.count(5), 1);
        }
    }

    /** "ACTS .. with x (ints, wrapping)": each body at the last int that does not wrap, and at the next (promise 35). */
    private static void actsWrap() {
        DUE.part("acts wrap");
        CutCrooked x = new CutCrooked();
        int[] kinds = {3, 0, 1, 2, 5, 4};
        int[] v = {1, 0, 0, 0, 0, 0};
        for (int i = 0; i < 6; i++) {
            x.cutter(kinds[i], v[i], 0, 0, 1);
        }
        DUE.is("1: x + 1", x.act(1, 0, MAX - 1), MAX);
        DUE.is("1: x + 1", x.act(1, 0, MAX), MIN);
        DUE.is("1: x + 0", x.act(0, 0, MAX), MAX);
        DUE.is("2: x - 1", x.act(0, 1, MIN + 1), MIN);
        DUE.is("2: x - 1", x.act(0, 1, MIN), MAX);
        DUE.is("3: * 2", x.act(1, 2, 1073741822), MAX - 1);
        DUE.is("3: * 2", x.act(1, 2, 1073741823), MIN);
        DUE.is("3: * 2", x.act(1, 2, -1073741825), MIN);
        DUE.is("3: * 2", x.act(1, 2, -1073741826), MAX - 1);
        DUE.is("11: * 3 and 2", x.act(2, 0, 715827881), 2147483645);
        DUE.is("11: * 3 and 2", x.act(2, 0, 715827882), MIN);
        DUE.is("11: * 3 and 2", x.act(2, 0, 715827883), -2147483645);
        DUE.is("11: * 3 and 2", x.act(2, 0, MIN), MIN + 2);
        DUE.is("21: - (x + 3)", x.act(3, 1, MAX - 3), MIN + 1);
        DUE.is("21: - (x + 3)", x.act(3, 1, MAX - 2), MIN);
        DUE.is("21: - (x + 3)", x.act(3, 1, MAX - 1), MAX);
        DUE.is("51: (x + 4) ^ 4", x.act(4, 0, MAX - 4), MAX - 4);
        DUE.is("51: (x + 4) ^ 4", x.act(4, 0, MAX - 3), MIN + 4);
        DUE.is("41: x - 1", x.act(5, 2, MIN + 1), 10 + 11);
        DUE.is("41: x - 1", x.act(5, 2, MIN), 2 * (MAX * 3 + 5) + 11);
        DUE.is("31: ^ 7", x.act(0, 2, MIN), -2 ^ 7);
        DUE.is("31: ^ 7", x.act(0, 2, 1), 7);
        DUE.is("31: ^ 7", x.act(0, 2, 0), -2 ^ 7);
        CutCrooked y = new CutCrooked();
        y.cutter(6, 9, 0, 0, 1);
        DUE.is("61: x - 9 + 9", y.act(0, 1, MIN), MIN);
        DUE.is("61: x - 9 + 9", y.act(0, 1, MIN + 8), MIN + 8);
        DUE.is("61: x - 9 + 9", y.act(0, 1, MAX), MAX);
    }

    /** "what stands in a body is done from the left on": super.tells(x - 1) ahead of cuts(2) (promises 35, 36). */
    private static void actsFromTheLeftOn() {
        DUE.part("from the left on");
        CutCrooked x = new CutCrooked();
        x.cutter(0, 0, 0, 0, 1);
        x.cutter(4, 3, 0, 0, 1);
        // ((9 * 3 + 1) - 3) * 2, and 2 * 3 + 1.
        DUE.is("act(1, 2, 10)", x.act(1, 2, 10), 57);
        int[] bodies = {41, 3, 2, 11, 1, 11, 1};
        for (int i = 0; i < bodies.length; i++) {
            DUE.is("trace(" + i + ")", x.trace(i), bodies[i]);
        }
        DUE.is("trace(7)", x.trace(7), -1);
        DUE.is("count(5)", x.count(5), 7);
    }

    /** "the body of its KIND, or, if that has none, of the next KIND above that has one" (promises 35, 36). */
    private static void actsByKind() {
        DUE.part("bodies by KIND");
        int[][][] bodies = {
            {{1}, {2, 1}, {3, 2, 1}},
            {{11, 1}, {2, 11, 1}, {3, 2, 11, 1}},
            {{1}, {21, 2, 1}, {3, 21, 2, 1}},
            {{1}, {2, 1}, {31, 3, 2, 1}},
            {{11, 1}, {2, 11, 1}, {41, 3, 2, 11, 1, 11, 1}},
            {{51, 1}, {21, 2, 51, 1}, {3, 21, 2, 51, 1}},
            {{1}, {61, 2, 1}, {31, 3, 61, 2, 1}}};
        for (int kind = 0; kind <= 6; kind++) {
            CutCrooked x = new CutCrooked();
            x.cutter(kind, 4, 0, 0, 1);
            for (int act = 0; act <= 2; act++) {
                x.act(0, act, 5);
                int[] due = bodies[kind][act];
                DUE.is("count(5) of kind " + kind + ", act " + act, x.count(5), due.length);
                for (int i = 0; i < due.length; i++) {
                    DUE.is("trace(" + i + ") of kind " + kind + ", act " + act, x.trace(i), due[i]);
                }
                DUE.is("no more", x.trace(due.length), -1);
            }
        }
    }

    /** "THE TRACE's i-th body. NONE"; "the first 20 are kept" (promise 36). */
    private static void traceFrom0() {
        DUE.part("trace");
        CutCrooked x = new CutCrooked();
        for (int i : new int[] {MIN, -1, 0, 1, 19, 20, 21, MAX}) {
            DUE.is("no act: trace(" + i + ")", x.trace(i), -1);
        }
        x.cutter(4, 0, 0, 0, 1);
        x.act(0, 2, 1);
        int[] is = {MIN, -1, 0, 6, 7, 19, 20, 21, MAX};
        int[] due = {-1, -1, 41, 1, -1, -1, -1, -1, -1};
        for (int i = 0; i < is.length; i++) {
            DUE.is("trace(" + is[i] + ")", x.trace(is[i]), due[i]);
        }
        x.act(0, 0, 1);
        DUE.is("the latest act's", x.trace(1), 1);
        DUE.is("the latest act's", x.trace(2), -1);
    }

    /** "A CUTTER taken for a KIND k (0 .. 6), or one under that: its v"; "-6: it is of another KIND" (promise 37). */
    private static void kindsAndThoseUnderThem() {
        DUE.part("as");
        int[] above = {0, 0, 0, 0, 1, 2, 3};
        for (int kind = 0; kind <= 6; kind++) {
            CutCrooked x = new CutCrooked();
            x.cutter(kind, 9, 0, 0, 1);
            for (int k = 0; k <= 6; k++) {
                boolean is = k == kind || k == above[kind] || k == 0;
                DUE.is("as(0, " + k + ") of " + kind, x.as(0, k), is ? 9 : -6);
            }
            for (int k : new int[] {MIN, -1, 7, MAX}) {
                DUE.is("as(0, " + k + ")", x.as(0, k), -1);
                DUE.is("as(1, " + k + ")", x.as(1, k), -1);
            }
            DUE.is("as(1, 0)", x.as(1, 0), -1);
            DUE.is("as(-1, 0)", x.as(-1, 0), -1);
        }
    }

    /** "STATE: there is none" (promise 39). */
    private static void noImage() {
        DUE.part("no image");
        CutCrooked x = straight(5);
        DUE.is("undo()", x.undo(), -3);
        x.cut(0);
        DUE.is("undo()", x.undo(), -3);
        DUE.is("it changes nothing", x.told(4), 1);
        DUE.is("image()", x.image(), 1);
        DUE.is("undo()", x.undo(), 1);
        DUE.is("a new one has none", new CutCrooked().undo(), -3);
    }

    /** "THE IMAGE: all that there is (but THE IMAGE and THE TRACE)" (promises 38, 39). */
    private static void imageIsAll() {
        DUE.part("the image is all");
        CutCrooked x = new CutCrooked();
        x.cutter(6, 1, 2, 3, 4);
        x.cutter(0, 0, 5, -1, 12);
        x.row(0, 2, 9);
        Due.board(x, "thin 7;end 8;slip 3 c=1;pull 2 c=1");
        x.loaf(500);
        x.cut(1);
        x.right();
        x.cut(0);
        x.see(8, 1);
        x.week(5);
        x.week(8);
        x.book(1, 2);
        x.book(0, 1);
        Due.feed(x, "end 7");
        DUE.is("image()", x.image(), 2);
        changeAll(x);
        DUE.is("undo()", x.undo(), 2);
        int[] told = {500, 475, 0, 3, 2, 36, 7, 8};
        for (int what = 0; what < told.length; what++) {
            DUE.is("told(" + what + ")", x.told(what), told[what]);
        }
        int[] count = {2, 1, 2, 2, 5, 1};
        for (int what = 0; what < count.length; what++) {
            DUE.is("count(" + what + ")", x.count(what), count[what]);
        }
        int[][] of = {{6, 1, 2, 3, 4, 16}, {0, 0, 5, -1, 12, 48}};
        for (int c = 0; c < 2; c++) {
            for (int what = 0; what < 6; what++) {
                DUE.is("of(" + c + ", " + what + ")", x.of(c, what), of[c][what]);
            }
        }
        DUE.is("of(2, 0)", x.of(2, 0), -10001);
        DUE.is("SEEN", x.who(), 2);
        // 12 by 8 and -2, then 4 by 0 and 3.
        DUE.is("BOOK", x.looked(), -5);
        DUE.is("slip", x.would(1, 4), 8);
        DUE.is("pull", x.would(1, 5), 1);
        // 5 by the ROW's third, then 5 and 3.
        DUE.is("WEEK and ROW", x.rows(-1), 1);
        DUE.is("WEEK and ROW", x.rows(0), 0);
        DUE.is("WEEK and ROW", x.rows(1), 1);
        DUE.is("THE TRACE stays", x.trace(0), 1);
        DUE.is("THE TAPE", x.board(), 1);
        DUE.is("THE TAPE", x.told(7), 7);
        DUE.is("ROW", x.row(0, 2, 0), 9);
    }

    private static void changeAll(CutCrooked x) {
        x.cutter(1, 0, 0, 0, 9);
        x.thick(0, 40);
        x.thick(1, 1);
        x.row(0, 2, 0);
        DUE.is("board()", x.board(), 1);
        Due.board(x, "thin 1;end 1;slip 50 c=1");
        Due.feed(x, "xxxxx");
        x.loaf(100);
        x.cut(0);
        x.cut(1);
        x.cut(2);
        x.turn(false);
        x.right();
        x.see(0, 0);
        x.clear();
        x.week(0);
        x.week(1);
        x.week(2);
        x.book(-1, 0);
        x.book(2, 7);
        x.book(2, 7);
        x.book(2, 7);
        x.act(0, 0, 5);
    }

    /** What is done behind an image does not reach it, nor what is done behind an undo (promises 38, 39). */
    private static void imageStays() {
        DUE.part("the image stays");
        CutCrooked x = new CutCrooked();
        x.cutter(6, 0, 0, 0, 10);
        x.image();
        for (int i = 0; i < 3; i++) {
            DUE.is("ROW", x.row(0, 0, 9), 4);
            DUE.is("cut(0)", x.cut(0), 40);
            DUE.is("told(2)", x.told(2), 5);
            DUE.is("EATEN", x.of(0, 5), 40);
            DUE.is("THICK", x.thick(0, 20), 10);
            DUE.is("undo()", x.undo(), 1);
            DUE.is("EATEN", x.of(0, 5), 0);
            DUE.is("told(1)", x.told(1), 300);
        }
        x.cut(0);
        x.image();
        x.cut(0);
        DUE.is("undo()", x.undo(), 1);
        DUE.is("the newest image", x.told(4), 1);
    }
}
