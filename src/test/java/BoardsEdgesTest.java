import java.util.Set;

/** Terms 1, what is told of THE TAPE and of BOARDS: each edge by a step inside it and one beyond. */
public final class BoardsEdgesTest {
    private static final Due DUE = new Due();

    public static void main(String[] args) {
        signsFrom0To127();
        tapeOf100();
        tapeIsEmptyBehindABoard();
        emptyTape();
        clauses10AtMost();
        semicolonsBetween();
        wordsAreWhole();
        oneBlankAheadOfEachPart();
        numbersOf1Or2Digits();
        termsAndFactors();
        openAtMost5();
        faultIsTheSizeIfItEndsTooEarly();
        faultIsTheFirstWrongByte();
        boards5AtMost();
        newestOneHolds();
        thinAndEndWithout();
        lastThinAndEnd();
        tests();
        upIsWithoutSign();
        atBy10IsCut();
        slicesModulo10();
        joinedTests();
        allThatHold();
        DUE.end();
    }

    /** What board() answers on a new object: the fault's place, or -1 if it is a board. */
    private static int fault(String text) {
        CutCrooked x = new CutCrooked();
        int got = Due.board(x, text);
        DUE.is("count(1) by '" + text + "'", x.count(1), got == 0 ? 1 : 0);
        return got == 0 ? -1 : -10 - got;
    }

    private static void isBoard(String text) {
        DUE.is("fault of '" + text + "'", fault(text), -1);
    }

    private static void isFault(String text, int at) {
        DUE.is("fault of '" + text + "'", fault(text), at);
    }

    /** "A sign (0 .. 127)" (promise 2). */
    private static void signsFrom0To127() {
        DUE.part("signs");
        CutCrooked x = new CutCrooked();
        int size = 0;
        for (int sign : new int[] {Integer.MIN_VALUE, -1, 0, 1, 126, 127, 128, 256 + 't', Integer.MAX_VALUE}) {
            boolean good = sign >= 0 && sign <= 127;
            size += good ? 1 : 0;
            DUE.is("feed(" + sign + ")", x.feed(sign), good ? size : -2);
            DUE.is("count(4)", x.count(4), size);
        }
        for (int sign = 0; sign < 128; sign++) {
            boolean word = sign == 't' || sign == 'e' || sign == 's' || sign == 'p';
            x = new CutCrooked();
            x.feed(sign);
            DUE.is("board() of sign " + sign, x.board(), word ? -11 : -10);
        }
    }

    private static String repeated(String text, int times) {
        return text.repeat(times);
    }

    /** "THE TAPE (bytes, 100 at most)" (promises 2, 3, 40). */
    private static void tapeOf100() {
        DUE.part("a tape of 100");
        CutCrooked x = new CutCrooked();
        for (int i = 1; i <= 100; i++) {
            DUE.is("feed", x.feed('x'), i);
        }
        DUE.is("one more", x.feed('x'), -4);
        DUE.is("one more", x.feed(0), -4);
        DUE.is("BAD ahead of FULL", x.feed(128), -2);
        DUE.is("BAD ahead of FULL", x.feed(-1), -2);
        DUE.is("count(4)", x.count(4), 100);
        String hundred = "slip 5 c=1" + repeated("|c=1", 21) + "|c=10;";
        DUE.is("the size", (hundred.substring(0, 99)).length(), 99);
        isBoard(hundred.substring(0, 99));
        isFault(hundred, 100);
        String all = "slip 55 c=1" + repeated("|c=1", 22) + "0";
        DUE.is("the size", all.length(), 100);
        isBoard(all);
        x = new CutCrooked();
        Due.feed(x, all);
        DUE.is("one beyond", x.feed('1'), -4);
        DUE.is("board()", x.board(), 0);
        isFault(all.substring(0, 98) + "=", 98);
        isFault(all.substring(0, 99) + "x", 99);
        isFault(all.substring(0, 99) + "|", 100);
    }

    /** "THE TAPE, which is empty then (by a FAULT, too)" (promises 2, 3, 40). */
    private static void tapeIsEmptyBehindABoard() {
        DUE.part("the tape behind a board");
        CutCrooked x = new CutCrooked();
        DUE.is("a fault", Due.board(x, "thin x"), -15);
        DUE.is("count(4)", x.count(4), 0);
        DUE.is("feed", x.feed('t'), 1);
        Due.feed(x, "hin 9");
        DUE.is("a board", x.board(), 0);
        DUE.is("count(4)", x.count(4), 0);
        DUE.is("feed", x.feed('t'), 1);
        Due.feed(x, repeated("t", 99));
        DUE.is("a full tape's fault", x.board(), -11);
        DUE.is("count(4)", x.count(4), 0);
        DUE.is("feed", x.feed('t'), 1);
    }

    /** "FAULT: .. (the size, if it ends too early)": an empty tape ends too early at 0 (promise 3). */
    private static void emptyTape() {
        DUE.part("an empty tape");
        CutCrooked x = new CutCrooked();
        DUE.is("board()", x.board(), -10);
        DUE.is("board() again", x.board(), -10);
        DUE.is("count(1)", x.count(1), 0);
        DUE.is("one sign", Due.board(x, "t"), -11);
        Due.board(x, "thin 9");
        DUE.is("behind a board", x.board(), -10);
        DUE.is("the one that held holds", x.told(6), 9);
    }

    /** "CLAUSES, 10 at most" (promise 3). */
    private static void clauses10AtMost() {
        DUE.part("10 clauses");
        for (int many = 1; many <= 10; many++) {
            isBoard(repeated("end 1;", many - 1) + "end 2");
            isFault(repeated("end 1;", many), many < 10 ? 6 * many : 59);
        }
        isFault(repeated("end 1;", 10) + "end 2", 59);
        isFault(repeated("end 1;", 10) + "x", 59);
        isFault(repeated("end 1;", 10) + ";", 59);
        isFault(repeated("end 1;", 9) + "end 12;end 2", 60);
        isFault(repeated("end 1;", 9) + "end x;end 2", 58);
        isBoard(repeated("end 1;", 9) + "pull 1 !(c=1&k=2)");
        isFault(repeated("end 1;", 9) + "pull 1 !(c=1&k=2);", 71);
        isBoard(repeated("thin 1;", 4) + repeated("slip 1 c=1;", 5) + "end 9");
        isFault(repeated("thin 1;", 4) + repeated("slip 1 c=1;", 5) + "end 9;", 88);
        CutCrooked x = new CutCrooked();
        x.cutter(3, 0, 0, 0, 1);
        Due.board(x, "slip 1 s=0;pull 1 s=0;slip 2 s=0;pull 2 s=0;slip 4 s=0;pull 4 s=0;slip 8 s=0;pull 8 s=0;thin 1");
        DUE.is("nine all count", x.would(0, 4), 15);
        DUE.is("nine all count", x.would(0, 5), 15);
        Due.board(x, "slip 1 s=0;slip 2 s=0;slip 4 s=0;slip 8 s=0;slip 1 s=0;slip 1 s=0;slip 1 s=0;slip 1 s=0;end 1;end 2");
        DUE.is("ten all count", x.would(0, 4), 19);
        DUE.is("ten all count", x.told(7), 2);
        Due.board(x, "slip 1 s=0;slip 1 s=0;slip 1 s=0;slip 1 s=0;slip 1 s=0;slip 1 s=0;slip 1 s=0;slip 1 s=0;slip 9 s=0");
        DUE.is("nine slips", x.would(0, 4), 17);
    }

    /** "CLAUSES .. with ; between" (promise 3). */
    private static void semicolonsBetween() {
        DUE.part("; between");
        isFault(";", 0);
        isFault(";thin 1", 0);
        isFault("thin 1;", 7);
        isFault("thin 1;;end 2", 7);
        isFault("thin 1,end 2", 6);
        isFault("thin 1end 2", 6);
        isFault("thin 1 ;end 2", 6);
        isFault("thin 1; end 2", 7);
        isFault("thin 12 ", 7);
        isFault("slip 1 c=1 ;end 2", 10);
        isFault("slip 1 c=1; end 2", 11);
        isFault("slip 1 c=1end 2", 10);
        isFault("slip 1 (c=1;end 2)", 11);
        isBoard("thin 1;end 2");
        isBoard("slip 1 c=1;end 2");
        isBoard("slip 1 (c=1);end 2");
    }

    /** "thin n; end n; slip n E; pull n E": the words (promise 3). */
    private static void wordsAreWhole() {
        DUE.part("words");
        String[] words = {"thin 5", "end 5", "slip 5 c=1", "pull 5 c=1"};
        for (String word : words) {
            int blank = word.indexOf(' ');
            for (int i = 0; i < blank; i++) {
                isFault(word.substring(0, i) + Character.toUpperCase(word.charAt(i)) + word.substring(i + 1), i);
                isFault(word.substring(0, i) + word.charAt(i) + "y" + word.substring(i + 1), i + 1);
                isFault(word.substring(0, i), i);
                isFault("end 1;" + word.substring(0, i) + "y", 6 + i);
            }
            isBoard(word);
            isBoard("end 1;" + word);
        }
        isFault("thick 5", 3);
        isFault("ends 5", 3);
        isFault("pill 5", 1);
        isFault("thin 5 c=1", 6);
        isFault("end 5 c=1", 5);
        isFault("slip 5", 6);
        isFault("pull 5;end 1", 6);
    }

    /** "one blank ahead of each part behind the word": none, two, and one elsewhere (promise 3). */
    private static void oneBlankAheadOfEachPart() {
        DUE.part("blanks");
        isFault("thin5", 4);
        isFault("thin  5", 5);
        isFault("end5", 3);
        isFault("end  5", 4);
        isFault("slip5 c=1", 4);
        isFault("slip  5 c=1", 5);
        isFault("slip 5c=1", 6);
        isFault("slip 55c=1", 7);
        isFault("slip 5  c=1", 7);
        isFault("pull5 c=1", 4);
        isFault("pull  5 c=1", 5);
        isFault("pull 5(c=1)", 6);
        isFault("pull 5  c=1", 7);
        isFault(" thin 5", 0);
        isFault("thin 5 ", 6);
        isFault("pull 5 c =1", 8);
        isFault("pull 5 c= 1", 9);
        isFault("pull 5 c=1 ", 10);
        isFault("pull 5 c=1 &c=2", 10);
        isFault("pull 5 c=1& c=2", 11);
        isFault("pull 5 ! c=1", 8);
        isFault("pull 5 ( c=1)", 8);
        isFault("pull 5 (c=1 )", 11);
        isFault("thin\t5", 4);
        isFault("slip 5\tc=1", 6);
    }

    /** "n 1 or 2 digits, no 0 ahead of another"; "a number likewise" (promise 3). */
    private static void numbersOf1Or2Digits() {
        DUE.part("numbers");
        String[][] around = {{"thin ", ""}, {"end ", ""}, {"slip ", " c=1"}, {"pull ", " c=1"}, {"end 5;thin ", ";end 6"},
            {"slip 1 c=", ""}, {"slip 1 k<", ""}, {"slip 1 t>", ""}, {"pull 1 u=", "&c=1"}, {"pull 1 l<", "|c=1"},
            {"pull 1 (s>", ")"}, {"pull 1 !c=", ";end 1"}};
        for (String[] a : around) {
            int at = a[0].length();
            for (String number : new String[] {"0", "1", "9", "10", "11", "19", "20", "98", "99"}) {
                isBoard(a[0] + number + a[1]);
            }
            for (String number : new String[] {"00", "01", "09", "010"}) {
                isFault(a[0] + number + a[1], at + 1);
            }
            for (String number : new String[] {"100", "999", "101"}) {
                isFault(a[0] + number + a[1], at + 2);
            }
            for (String number : new String[] {"", "-1", "+1", "x", "/", ":", ".5"}) {
                isFault(a[0] + number + a[1], at);
            }
            isFault(a[0] + "1x" + a[1], at + 1);
            isFault(a[0] + "1/" + a[1], at + 1);
            isFault(a[0] + "1:" + a[1], at + 1);
        }
        CutCrooked x = new CutCrooked();
        for (int n : new int[] {0, 9, 10, 99}) {
            Due.board(x, "thin " + n + ";end " + n);
            DUE.is("told(6)", x.told(6), n);
            DUE.is("told(7)", x.told(7), n);
        }
    }

    /** "E: T, or T|E. T: F, or F&T. F: !F, (E), or a TEST": what is missing, what is too much (promise 3). */
    private static void termsAndFactors() {
        DUE.part("terms and factors");
        isFault("slip 1 |c=1", 7);
        isFault("slip 1 &c=1", 7);
        isFault("slip 1 c=1|", 11);
        isFault("slip 1 c=1&", 11);
        isFault("slip 1 c=1|&c=1", 11);
        isFault("slip 1 c=1||c=1", 11);
        isFault("slip 1 c=1&&c=1", 11);
        isFault("slip 1 c=1!c=1", 10);
        isFault("slip 1 c=1c=1", 10);
        isFault("slip 1 c=1(c=1)", 10);
        isFault("slip 1 (c=1)(c=1)", 12);
        isFault("slip 1 (c=1)!c=1", 12);
        isFault("slip 1 ()", 8);
        isFault("slip 1 (!)", 9);
        isFault("slip 1 (c=1|)", 12);
        isFault("slip 1 )", 7);
        isFault("slip 1 c=1)", 10);
        isFault("slip 1 (c=1))", 12);
        isFault("slip 1 !c=1)", 11);
        isFault("slip 1 (c=1", 11);
        isFault("slip 1 ((c=1)", 13);
        isFault("slip 1 !", 8);
        isFault("slip 1 a=1", 7);
        isFault("slip 1 C=1", 7);
        isFault("slip 1 1=c", 7);
        isFault("slip 1 c", 8);
        isFault("slip 1 cc=1", 8);
        isFault("slip 1 c1", 8);
        isFault("slip 1 c>=1", 9);
        isFault("slip 1 c<>1", 9);
        isFault("slip 1 c!=1", 8);
        isFault("slip 1 c=u", 9);
        isBoard("slip 1 c=1|c=2|c=3&c=4&c=5|!c=6&(c=7|c=8)");
        isBoard("slip 1 !(!(c=1))&!!c=2");
        for (char test : "cktuls".toCharArray()) {
            for (char sign : "<=>".toCharArray()) {
                isBoard("slip 1 " + test + sign + "5");
                isFault("slip 1 " + test + sign, 9);
            }
        }
    }

    /** "At most 5 of ! and ( are open (a ( till its ) , a ! till its F ends)" (promise 3). */
    private static void openAtMost5() {
        DUE.part("open");
        String[] fives = {"!!!!!", "(((((", "!(!(!", "(!(!(", "!!(((", "((!!!", "(((!!", "!((!("};
        for (String five : fives) {
            String end = repeated(")", five.replace("!", "").length());
            isBoard("slip 1 " + five.substring(1) + "c=1" + (five.charAt(0) == '(' ? end.substring(1) : end));
            isBoard("slip 1 " + five + "c=1" + end);
            isFault("slip 1 " + five + "!c=1" + end, 12);
            isFault("slip 1 " + five + "(c=1)" + end, 12);
            isFault("slip 1 " + five + ")", 12);
            isFault("slip 1 " + five, 12);
        }
        isBoard("slip 1 !!!!!c=1&!!!!!c=2|!!!!!c=3");
        isFault("slip 1 !!!!!c=1&!!!!!!c=2", 21);
        isBoard("slip 1 (((((c=1)))))&(((((c=2)))))");
        isFault("slip 1 (((((c=1)))))&((((((c=2))))))", 26);
        // Behind its F a ! is no longer open, though the ( around it is.
        isBoard("slip 1 (!!!!c=1&!!!!c=2)");
        isFault("slip 1 (!!!!c=1&!!!!!c=2)", 20);
        isBoard("slip 1 (!!!!c=1)&!!!!!c=2");
        isBoard("slip 1 !(((c=1)|(c=2)))&(((((c=3)))))");
        isBoard("slip 1 ((((c=1)|(c=2)|!c=3)))");
        isBoard("slip 1 ((((!c=1|!c=2)|(c=3))))");
        isFault("slip 1 ((((!c=1|!!c=2)))))", 17);
        isFault("slip 1 ((((!c=1|!(c=2)))))", 17);
        isBoard("slip 1 !(!(c=1)&!(!c=2))");
        isFault("slip 1 !(!(c=1)&!(!!c=2))", 19);
        isFault("slip 1 !(!(c=1)&!(!(!c=2)))", 19);
        // Each ! and ( of another clause is another one's.
        isBoard("slip 1 !!!!!c=1;pull 1 !!!!!c=1");
        isFault("slip 1 !!!!!c=1;pull 1 !!!!!!c=1", 28);
    }

    /** "FAULT: .. (the size, if it ends too early)": each beginning of a board (promise 3). */
    private static void faultIsTheSizeIfItEndsTooEarly() {
        DUE.part("beginnings");
        String text = "slip 12 !(c<10&k=1|t>5);pull 3 u=0|s<12;thin 10;end 4";
        // A number of two digits is one by its first, too.
        Set<Integer> whole = Set.of(23, 34, 38, 39, 46, 47, 53);
        for (int size = 0; size <= text.length(); size++) {
            String begun = text.substring(0, size);
            DUE.is("fault of '" + begun + "'", fault(begun), whole.contains(size) ? -1 : size);
        }
    }

    /** "FAULT: the place of the first byte with which no BOARD can go on" (promise 3). */
    private static void faultIsTheFirstWrongByte() {
        DUE.part("wrong bytes");
        String text = "slip 12 !(c<10&k=1|t>5);pull 3 u=0|s<12;thin 10;end 4";
        for (int i = 0; i <= text.length(); i++) {
            for (char wrong : new char[] {0, '?', 'x', 127}) {
                isFault(text.substring(0, i) + wrong + text.substring(Math.min(i + 1, text.length())), i);
                isFault(text.substring(0, i) + wrong + text.substring(i), i);
            }
        }
    }

    /** "BOARDS are numbered from 0 on, 5 at most"; "FULL (ahead of all; THE TAPE stays)" (promises 3, 39, 40). */
    private static void boards5AtMost() {
        DUE.part("5 boards");
        CutCrooked x = new CutCrooked();
        x.image();
        for (int i = 0; i < 5; i++) {
            DUE.is("a fault takes no number", Due.board(x, "x"), -10);
            DUE.is("board", Due.board(x, "thin " + (10 + i)), i);
            DUE.is("count(1)", x.count(1), i + 1);
        }
        DUE.is("an empty tape", x.board(), -4);
        DUE.is("a good one", Due.board(x, "thin 50"), -4);
        DUE.is("THE TAPE stays", x.count(4), 7);
        DUE.is("a fault", Due.board(x, "?"), -4);
        DUE.is("THE TAPE stays", x.count(4), 8);
        DUE.is("count(1)", x.count(1), 5);
        DUE.is("the fifth holds", x.told(6), 14);
        DUE.is("undo()", x.undo(), 0);
        DUE.is("count(1)", x.count(1), 0);
        DUE.is("THE TAPE, too", x.count(4), 0);
        DUE.is("told(6)", x.told(6), 3);
        DUE.is("from 0 on again", Due.board(x, "thin 60"), 0);
    }

    /** "the newest one holds; without one there are no CLAUSES"; "(the one that held holds)" (promises 1, 3, 9). */
    private static void newestOneHolds() {
        DUE.part("the newest one");
        CutCrooked x = new CutCrooked();
        x.cutter(0, 0, 0, 0, 20);
        DUE.is("no CLAUSES", x.would(0, 4), 0);
        Due.board(x, "slip x");
        DUE.is("a fault holds nothing", x.would(0, 4), 0);
        Due.board(x, "slip 5 c=0;pull 6 c=0;thin 7;end 8");
        DUE.is("would(0, 4)", x.would(0, 4), 5);
        DUE.is("would(0, 5)", x.would(0, 5), 6);
        Due.board(x, "pull 9 c=0;thin 1;end 1;slip 1 c=0;x");
        DUE.is("a fault leaves slip", x.would(0, 4), 5);
        DUE.is("a fault leaves pull", x.would(0, 5), 6);
        DUE.is("a fault leaves THIN", x.told(6), 7);
        DUE.is("a fault leaves END", x.told(7), 8);
        Due.board(x, "slip 1 c=0");
        DUE.is("the newest one alone", x.would(0, 4), 1);
        DUE.is("the newest one alone", x.would(0, 5), 0);
        Due.board(x, "end 1");
        DUE.is("the newest one alone", x.would(0, 4), 0);
    }

    /** "THIN (3 without), END (10 without)" (promises 1, 3, 9). */
    private static void thinAndEndWithout() {
        DUE.part("thin and end without");
        CutCrooked x = new CutCrooked();
        DUE.is("no BOARD: THIN", x.told(6), 3);
        DUE.is("no BOARD: END", x.told(7), 10);
        Due.board(x, "thin 8");
        DUE.is("THIN", x.told(6), 8);
        DUE.is("END without", x.told(7), 10);
        Due.board(x, "end 8");
        DUE.is("THIN without", x.told(6), 3);
        DUE.is("END", x.told(7), 8);
        Due.board(x, "slip 8 c=0");
        DUE.is("THIN without", x.told(6), 3);
        DUE.is("END without", x.told(7), 10);
        Due.board(x, "thin 0;end 0");
        DUE.is("0 is an n", x.told(6), 0);
        DUE.is("0 is an n", x.told(7), 0);
    }

    /** "THIN, END: the last n" (promises 3, 9). */
    private static void lastThinAndEnd() {
        DUE.part("the last n");
        CutCrooked x = new CutCrooked();
        Due.board(x, "thin 9;end 99;thin 5;end 50");
        DUE.is("THIN", x.told(6), 5);
        DUE.is("END", x.told(7), 50);
        Due.board(x, "end 50;end 0;thin 0;thin 99");
        DUE.is("THIN", x.told(6), 99);
        DUE.is("END", x.told(7), 0);
        Due.board(x, "thin 1;end 2;slip 9 c=0;pull 8 c=0");
        DUE.is("no slip is an n of it", x.told(6), 1);
        DUE.is("no pull is an n of it", x.told(7), 2);
    }

    /** Whether E holds as the one's CUT begins. */
    private static void holds(CutCrooked x, int cutter, String e, boolean due) {
        x.image();
        int flat = x.would(cutter, 5);
        DUE.is("board of " + e, Due.board(x, "end 0;pull 1 " + e) >= 0 ? 1 : 0, 1);
        DUE.is(e, x.would(cutter, 5) - flat, due ? 1 : 0);
        x.undo();
    }

    /** Each sign at a value, one below it and one above it. */
    private static void measures(CutCrooked x, int cutter, char test, int value) {
        for (int n = Math.max(0, value - 1); n <= Math.min(99, value + 1); n++) {
            holds(x, cutter, test + "<" + n, value < n);
            holds(x, cutter, test + "=" + n, value == n);
            holds(x, cutter, test + ">" + n, value > n);
        }
    }

    private static CutCrooked board(CutCrooked x, String text) {
        DUE.is("board of " + text, Due.board(x, text), 0);
        return x;
    }

    /** "of a CUTTER c its number, k its KIND, t its THICK", each at its least and most (promise 3). */
    private static void tests() {
        DUE.part("tests of a cutter");
        for (int i = 0; i < 6; i += 5) {
            CutCrooked x = new CutCrooked();
            for (int j = 0; j < 6; j++) {
                x.cutter(0, 9 - j, 0, 0, 2 + j);
            }
            measures(board(x, "end 0"), i, 'c', i);
        }
        for (int kind = 0; kind <= 6; kind++) {
            CutCrooked x = new CutCrooked();
            x.cutter(kind, 9, 0, 0, 20);
            measures(board(x, "end 0"), 0, 'k', kind);
        }
        for (int thick : new int[] {1, 2, 9, 10, 39, 40}) {
            CutCrooked x = new CutCrooked();
            x.cutter(0, 9, 0, 0, 7);
            x.thick(0, thick);
            measures(board(x, "end 0"), 0, 't', thick);
        }
    }

    /** "u UP without sign" (promise 3). */
    private static void upIsWithoutSign() {
        DUE.part("u");
        for (int up : new int[] {0, 1, 9, 10, 50, 98, 99}) {
            for (int turns = 0; turns < 2; turns++) {
                CutCrooked x = new CutCrooked();
                x.cutter(1, 0, 0, 0, 1);
                board(x, "slip " + up + " s=0;pull 7 s=0;end 0");
                x.cut(0);
                for (int i = 0; i < turns; i++) {
                    x.turn(false);
                }
                DUE.is("told(2)", x.told(2), turns == 0 ? up : -up);
                measures(x, 0, 'u', up);
            }
        }
    }

    /** "l AT by 10 (cut)" (promise 3). */
    private static void atBy10IsCut() {
        DUE.part("l");
        int[][] ats = {{999, 99}, {991, 99}, {990, 99}, {989, 98}, {300, 30}, {299, 29}, {110, 11}, {109, 10},
            {100, 10}, {99, 9}, {40, 4}};
        for (int[] at : ats) {
            CutCrooked x = new CutCrooked();
            x.cutter(1, 0, 0, 0, 1);
            x.loaf(at[0]);
            measures(board(x, "end 0"), 0, 'l', at[1]);
        }
        int[][] low = {{20, 2}, {19, 1}, {11, 1}, {10, 1}, {9, 0}, {2, 0}};
        for (int[] at : low) {
            CutCrooked x = new CutCrooked();
            x.cutter(1, 0, 0, 0, 1);
            board(x, "end 0");
            x.loaf(40);
            x.thick(0, 40 - at[0]);
            x.cut(0);
            x.thick(0, 1);
            DUE.is("told(1)", x.told(1), at[0]);
            measures(x, 0, 'l', at[1]);
        }
    }

    /** "s SLICES modulo 10" (promise 3). */
    private static void slicesModulo10() {
        DUE.part("s");
        for (int slices : new int[] {0, 1, 8, 9, 10, 11, 19, 20, 21, 99, 100}) {
            CutCrooked x = new CutCrooked();
            x.cutter(1, 0, 0, 0, 1);
            board(x, "end 0");
            for (int i = 0; i < slices; i++) {
                x.cut(0);
            }
            DUE.is("told(4)", x.told(4), slices);
            measures(x, 0, 's', slices % 10);
            holds(x, 0, "s=" + slices % 100, slices < 10 || slices == 100);
        }
    }

    /** "E: T, or T|E. T: F, or F&T": & ahead of |, ! ahead of both, and all rows of two and three (promise 3). */
    private static void joinedTests() {
        DUE.part("joined tests");
        String[] tests = {"c=1", "c=0"};
        for (int bits = 0; bits < 8; bits++) {
            boolean a = (bits & 1) != 0;
            boolean b = (bits & 2) != 0;
            boolean c = (bits & 4) != 0;
            String p = tests[a ? 1 : 0];
            String q = tests[b ? 1 : 0];
            String r = tests[c ? 1 : 0];
            CutCrooked x = new CutCrooked();
            x.cutter(0, 0, 0, 0, 5);
            holds(x, 0, p + "|" + q + "&" + r, a || b && c);
            holds(x, 0, p + "&" + q + "|" + r, a && b || c);
            holds(x, 0, "(" + p + "|" + q + ")&" + r, (a || b) && c);
            holds(x, 0, p + "&(" + q + "|" + r + ")", a && (b || c));
            holds(x, 0, "!" + p + "&" + q, !a && b);
            holds(x, 0, "!" + p + "|" + q, !a || b);
            holds(x, 0, "!(" + p + "&" + q + ")", !(a && b));
            holds(x, 0, "!(" + p + "|" + q + ")&!" + r, !(a || b) && !c);
            CutCrooked y = new CutCrooked();
            y.cutter(0, 0, 0, 0, 5);
            holds(y, 0, p + "|" + q + "|" + r, a || b || c);
            holds(y, 0, p + "&" + q + "&" + r, a && b && c);
            holds(y, 0, "!!!!!" + p, !a);
            holds(y, 0, "!!!!" + p, a);
            holds(y, 0, "!(!(" + p + "|" + q + ")&!" + r + ")", a || b || c);
            holds(y, 0, "((((" + p + "&!" + q + "))))|" + r, a && !b || c);
        }
    }

    /** "The n of all slip whose E holds is added": none, one, all (promises 3, 10, 13). */
    private static void allThatHold() {
        DUE.part("all that hold");
        String[] boards = {"slip 5 c=1;pull 6 c=1", "slip 5 c=0;pull 6 c=1", "slip 5 c=1;pull 6 c=0",
            "slip 5 c=0;pull 6 c=0;slip 20 c=1;pull 30 c=1;slip 1 c=0;pull 2 c=0"};
        int[][] due = {{2, 3}, {7, 3}, {2, 9}, {8, 11}};
        for (int i = 0; i < boards.length; i++) {
            CutCrooked x = new CutCrooked();
            x.cutter(0, 0, 2, 3, 20);
            board(x, boards[i]);
            DUE.is("would(0, 4)", x.would(0, 4), due[i][0]);
            DUE.is("would(0, 5)", x.would(0, 5), due[i][1]);
            DUE.is("cut(0)", x.cut(0), 80);
            DUE.is("told(2)", x.told(2), due[i][0]);
            DUE.is("told(3)", x.told(3), due[i][1]);
        }
    }
}
