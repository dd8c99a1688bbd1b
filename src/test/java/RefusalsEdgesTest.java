import java.util.function.ToLongFunction;

/** Terms 3: which refusal is told, which of several first, and that they change nothing; nor does what is asked. */
public final class RefusalsEdgesTest {
    private static final Due DUE = new Due();
    private static final int MIN = Integer.MIN_VALUE;
    private static final int MAX = Integer.MAX_VALUE;
    private static final int NONE = -1, BAD = -2, STATE = -3, FULL = -4;
    private static final int NONE_APART = -10001, BAD_APART = -10002;
    private static final int[] OUT = {MIN, -1, MAX};

    public static void main(String[] args) {
        feeds();
        boards();
        cutters();
        ofs();
        thicks();
        rowsOfTold();
        loaves();
        tolds();
        cuts();
        rights();
        woulds();
        ons();
        toasts();
        orders();
        enoughAndAgain();
        whens();
        guides();
        eveners();
        games();
        cheeses();
        sees();
        weeks();
        rows();
        odds();
        books();
        acts();
        traces();
        kinds();
        undos();
        counts();
        whatIsAsked();
        DUE.end();
    }

    /** A call on an object made so: its answer, and that all is as on its twin, which was not called. */
    private static void refused(String how, String call, long due, ToLongFunction<CutCrooked> run) {
        unchanged(how, call, due, run, true);
    }

    private static void unchanged(String how, String call, long due, ToLongFunction<CutCrooked> run, boolean traced) {
        CutCrooked x = Twins.by(how);
        DUE.is(how + ": " + call, run.applyAsLong(x), due);
        Twins.alike(DUE, how + ", behind " + call, x, Twins.by(how), traced);
    }

    private static void feeds() {
        DUE.part("feed");
        for (int sign : new int[] {MIN, -1, 128, MAX}) {
            refused("made", "feed(" + sign + ")", BAD, x -> x.feed(sign));
            refused("full", "feed(" + sign + "): BAD ahead of FULL", BAD, x -> x.feed(sign));
        }
        refused("full", "feed(0)", FULL, x -> x.feed(0));
        refused("full", "feed(127)", FULL, x -> x.feed(127));
    }

    private static void boards() {
        DUE.part("board");
        refused("full", "board(): FULL ahead of a FAULT", FULL, x -> x.board());
    }

    private static void cutters() {
        DUE.part("cutter");
        for (int kind : new int[] {MIN, -1, 7, MAX}) {
            refused("made", "NONE", NONE, x -> x.cutter(kind, 0, 0, 0, 1));
            refused("made", "NONE ahead of BAD", NONE, x -> x.cutter(kind, 10, -10, 10, 0));
            refused("full", "NONE ahead of FULL", NONE, x -> x.cutter(kind, 0, 0, 0, 1));
            refused("full", "NONE ahead of all", NONE, x -> x.cutter(kind, -1, 10, -10, 41));
        }
        for (String how : new String[] {"made", "full"}) {
            for (int v : new int[] {MIN, -1, 10, MAX}) {
                refused(how, "BAD: v", BAD, x -> x.cutter(0, v, 0, 0, 1));
            }
            for (int slant : new int[] {MIN, -10, 10, MAX}) {
                refused(how, "BAD: u", BAD, x -> x.cutter(0, 0, slant, 0, 1));
                refused(how, "BAD: s", BAD, x -> x.cutter(0, 0, 0, slant, 1));
            }
            for (int thick : new int[] {MIN, 0, 41, MAX}) {
                refused(how, "BAD: thick", BAD, x -> x.cutter(0, 0, 0, 0, thick));
            }
        }
        refused("full", "FULL", FULL, x -> x.cutter(0, 0, 0, 0, 1));
        refused("full", "FULL", FULL, x -> x.cutter(6, 9, 9, -9, 40));
    }

    private static void ofs() {
        DUE.part("of");
        for (int what : new int[] {MIN, -1, 6, MAX}) {
            refused("made", "of(0, " + what + ")", NONE_APART, x -> x.of(0, what));
            refused("made", "of(3, " + what + ")", NONE_APART, x -> x.of(3, what));
        }
        for (int c : new int[] {MIN, -1, 3, MAX}) {
            refused("made", "of(" + c + ", 0)", NONE_APART, x -> x.of(c, 0));
        }
    }

    private static void thicks() {
        DUE.part("thick");
        for (int n : new int[] {MIN, 0, 41, MAX}) {
            refused("made", "thick(0, " + n + ")", BAD, x -> x.thick(0, n));
            refused("made", "thick(3, " + n + "): NONE ahead of BAD", NONE, x -> x.thick(3, n));
            refused("made", "thick(-1, " + n + "): NONE ahead of BAD", NONE, x -> x.thick(-1, n));
        }
        refused("made", "thick(3, 5)", NONE, x -> x.thick(3, 5));
        refused("made", "thick(-1, 5)", NONE, x -> x.thick(-1, 5));
    }

    private static void rowsOfTold() {
        DUE.part("row");
        for (int n : new int[] {MIN, -1, 10, MAX}) {
            refused("made", "BAD", BAD, x -> x.row(0, 0, n));
            refused("made", "BAD ahead of STATE", BAD, x -> x.row(1, 0, n));
            refused("made", "NONE (cutter) ahead of BAD", NONE, x -> x.row(3, 0, n));
            refused("made", "NONE (k) ahead of BAD", NONE, x -> x.row(0, 4, n));
            refused("made", "NONE (k) ahead of BAD and STATE", NONE, x -> x.row(1, -1, n));
        }
        for (int k : new int[] {MIN, -1, 4, MAX}) {
            refused("made", "NONE: k", NONE, x -> x.row(0, k, 5));
            refused("made", "NONE (k) ahead of STATE", NONE, x -> x.row(1, k, 5));
            refused("made", "NONE: both", NONE, x -> x.row(3, k, 5));
        }
        for (int c : new int[] {MIN, -1, 3, MAX}) {
            refused("made", "NONE: cutter", NONE, x -> x.row(c, 0, 5));
        }
        refused("made", "STATE", STATE, x -> x.row(1, 0, 5));
        refused("made", "STATE", STATE, x -> x.row(2, 3, 0));
    }

    private static void loaves() {
        DUE.part("loaf");
        for (int n : new int[] {MIN, -1, 0, 39, 1000, MAX}) {
            refused("made", "loaf(" + n + ")", BAD, x -> x.loaf(n));
        }
    }

    private static void tolds() {
        DUE.part("told");
        for (int what : new int[] {MIN, -1, 8, 9, 14, MAX}) {
            refused("made", "told(" + what + ")", NONE_APART, x -> x.told(what));
        }
    }

    private static void cuts() {
        DUE.part("cut");
        for (int c : new int[] {MIN, -1, 3, MAX}) {
            refused("made", "cut(" + c + ")", NONE, x -> x.cut(c));
        }
        refused("spent", "cut(2): NONE ahead of STATE", NONE, x -> x.cut(2));
        refused("spent", "cut(0)", STATE, x -> x.cut(0));
        refused("spent", "cut(1)", STATE, x -> x.cut(1));
    }

    private static void rights() {
        DUE.part("right");
        refused("spent", "right()", STATE, x -> x.right());
    }

    private static void woulds() {
        DUE.part("would");
        for (int what : new int[] {MIN, -1, 7, MAX}) {
            refused("made", "would(0, " + what + ")", NONE_APART, x -> x.would(0, what));
            refused("spent", "would(0, " + what + "): NONE ahead of -10005", NONE_APART, x -> x.would(0, what));
        }
        for (int c : OUT) {
            refused("made", "would(" + c + ", 0)", NONE_APART, x -> x.would(c, 0));
            refused("spent", "would(" + c + ", 0)", NONE_APART, x -> x.would(c, 0));
        }
        for (int what = 0; what <= 6; what++) {
            int one = what;
            refused("spent", "would(1, " + what + ")", -10005, x -> x.would(1, one));
        }
    }

    private static void ons() {
        DUE.part("on");
        for (int n : new int[] {MIN, -1, 41, MAX}) {
            refused("made", "on(" + n + ", 5)", BAD_APART, x -> x.on(n, 5));
            refused("made", "on(" + n + ", 12)", BAD_APART, x -> x.on(n, 12));
            refused("made", "on(" + n + ", 13): NONE ahead of BAD", NONE_APART, x -> x.on(n, 13));
            refused("made", "on(" + n + ", 6): NONE ahead of BAD", NONE_APART, x -> x.on(n, 6));
            refused("new", "on(" + n + ", 10): NONE ahead of BAD", NONE_APART, x -> x.on(n, 10));
        }
        for (int what : new int[] {MIN, -1, 6, 9, 13, 16, MAX}) {
            refused("made", "on(1, " + what + ")", NONE_APART, x -> x.on(1, what));
        }
    }

    private static void toasts() {
        DUE.part("toasted");
        for (int n : new int[] {MIN, -1, 41, MAX}) {
            refused("made", "toasted(" + n + ", 0)", BAD, x -> x.toasted(n, 0));
            refused("made", "toasted(" + n + ", 100)", BAD, x -> x.toasted(n, 100));
        }
        for (int m : new int[] {MIN, -1, 100, MAX}) {
            refused("made", "toasted(0, " + m + ")", BAD, x -> x.toasted(0, m));
        }
    }

    private static void orders() {
        DUE.part("order");
        for (int k : new int[] {MIN, -2, 5, MAX}) {
            refused("made", "order(" + k + ")", NONE, x -> x.order(k));
            refused("full", "order(" + k + "): NONE ahead of -9", NONE, x -> x.order(k));
            refused("spent", "order(" + k + "): NONE ahead of -5", NONE, x -> x.order(k));
        }
        refused("full", "order(-1)", -9, x -> x.order(-1));
        refused("full", "order(4)", -9, x -> x.order(4));
        refused("spent", "order(-1)", -5, x -> x.order(-1));
        refused("spent", "order(0)", -5, x -> x.order(0));
        refused("spent", "cancel()", -5, x -> x.cancel());
    }

    private static void enoughAndAgain() {
        DUE.part("enough, again");
        for (int c : new int[] {MIN, -1, 3, MAX}) {
            refused("made", "enough(" + c + ")", NONE, x -> x.enough(c));
            refused("made", "again(" + c + ")", NONE, x -> x.again(c));
        }
        refused("spent", "enough(2): NONE ahead of -5", NONE, x -> x.enough(2));
        refused("spent", "enough(0)", -5, x -> x.enough(0));
        refused("spent", "again(2): NONE ahead of -5", NONE, x -> x.again(2));
        refused("spent", "again(1)", -5, x -> x.again(1));
    }

    private static void whens() {
        DUE.part("when");
        for (int n : new int[] {MIN, -1, 0, 21, MAX}) {
            refused("made", "when(" + n + ", 0)", BAD, x -> x.when(n, 0));
            refused("made", "when(" + n + ", 1)", BAD, x -> x.when(n, 1));
            refused("made", "when(" + n + ", 2): NONE ahead of BAD", NONE, x -> x.when(n, 2));
            refused("spent", "when(" + n + ", 0): BAD ahead of -5", BAD, x -> x.when(n, 0));
        }
        for (int what : new int[] {MIN, -1, 2, MAX}) {
            refused("made", "when(1, " + what + ")", NONE, x -> x.when(1, what));
            refused("spent", "when(1, " + what + "): NONE ahead of -5", NONE, x -> x.when(1, what));
        }
        refused("spent", "when(20, 0)", -5, x -> x.when(20, 0));
    }

    private static void guides() {
        DUE.part("guide");
        for (int n : new int[] {MIN, -1, 41, MAX}) {
            refused("made", "guide(" + n + ")", BAD_APART, x -> x.guide(n));
        }
    }

    private static void eveners() {
        DUE.part("evener");
        for (int n : new int[] {MIN, -1, 41, MAX}) {
            refused("made", "evener(" + n + ", 0)", BAD, x -> x.evener(n, 0));
            refused("made", "evener(" + n + ", 2): NONE ahead of BAD", NONE, x -> x.evener(n, 2));
            refused("new", "evener(" + n + ", 1): BAD ahead of -5", BAD, x -> x.evener(n, 1));
        }
        for (int what : new int[] {MIN, -1, 2, MAX}) {
            refused("made", "evener(1, " + what + ")", NONE, x -> x.evener(1, what));
            refused("new", "evener(1, " + what + "): NONE ahead of -5", NONE, x -> x.evener(1, what));
        }
        refused("new", "evener(0, 0)", -5, x -> x.evener(0, 0));
    }

    private static void games() {
        DUE.part("game");
        for (int c : new int[] {MIN, -1, 3, MAX}) {
            refused("made", "game(" + c + ", 0, 1, 0)", NONE_APART, x -> x.game(c, 0, 1, 0));
            refused("made", "game(0, " + c + ", 1, 0)", NONE_APART, x -> x.game(0, c, 1, 0));
            refused("made", "game(c, c): NONE ahead of one is both", NONE_APART, x -> x.game(c, c, 1, 0));
            refused("made", "game(c, 0, 0): NONE ahead of BAD", NONE_APART, x -> x.game(c, 0, 0, 0));
        }
        for (int what : new int[] {MIN, -1, 2, MAX}) {
            refused("made", "game(0, 1, 1, " + what + ")", NONE_APART, x -> x.game(0, 1, 1, what));
            refused("made", "game(0, 0, 1, " + what + ")", NONE_APART, x -> x.game(0, 0, 1, what));
            refused("made", "game(0, 1, 6, " + what + ")", NONE_APART, x -> x.game(0, 1, 6, what));
        }
        for (int n : new int[] {MIN, -1, 0, 6, MAX}) {
            refused("made", "game(0, 1, " + n + ", 0)", BAD_APART, x -> x.game(0, 1, n, 0));
            refused("made", "game(1, 1, " + n + ", 0)", BAD_APART, x -> x.game(1, 1, n, 0));
        }
        refused("made", "game(0, 0, 1, 0)", BAD_APART, x -> x.game(0, 0, 1, 0));
        refused("spent", "game(0, 1, 5, 0)", 0, x -> x.game(0, 1, 5, 0));
        refused("spent", "game(0, 1, 5, 1)", -5, x -> x.game(0, 1, 5, 1));
    }

    private static void cheeses() {
        DUE.part("cheese");
        for (int n : new int[] {MIN, -1, 0, 11, 361, MAX}) {
            refused("made", "cheese(" + n + ", 0)", BAD, x -> x.cheese(n, 0));
            refused("made", "cheese(" + n + ", 12)", BAD, x -> x.cheese(n, 12));
            refused("made", "cheese(" + n + ", 13): NONE ahead of BAD", NONE, x -> x.cheese(n, 13));
            refused("made", "cheese(" + n + ", 2): NONE ahead of BAD", NONE, x -> x.cheese(n, 2));
        }
        for (int what : new int[] {MIN, -1, 2, 9, 13, 16, MAX}) {
            refused("made", "cheese(12, " + what + ")", NONE, x -> x.cheese(12, what));
        }
    }

    private static void sees() {
        DUE.part("see");
        for (int n : new int[] {MIN, -100, 100, MAX}) {
            refused("made", "see(" + n + ", 0)", BAD, x -> x.see(n, 0));
            refused("made", "see(0, " + n + ")", BAD, x -> x.see(0, n));
            refused("made", "see(" + n + ", " + n + ")", BAD, x -> x.see(n, n));
        }
    }

    private static void weeks() {
        DUE.part("week");
        for (int n : new int[] {MIN, -100, 100, MAX}) {
            refused("made", "week(" + n + ")", BAD, x -> x.week(n));
            refused("full", "week(" + n + "): BAD ahead of FULL", BAD, x -> x.week(n));
        }
        refused("full", "week(0)", FULL, x -> x.week(0));
        refused("full", "week(99)", FULL, x -> x.week(99));
    }

    private static void rows() {
        DUE.part("rows");
        for (int k : new int[] {MIN, -2, 4, MAX}) {
            refused("made", "rows(" + k + ")", NONE, x -> x.rows(k));
            refused("new", "rows(" + k + "): NONE ahead of -5", NONE, x -> x.rows(k));
        }
        refused("new", "rows(3)", -5, x -> x.rows(3));
    }

    private static void odds() {
        DUE.part("odds, mean");
        for (String how : new String[] {"made", "new"}) {
            for (int n : new int[] {MIN, -1, 0, 4, MAX}) {
                refused(how, "odds(" + n + ", 0)", CutCrooked.NO, x -> x.odds(n, 0));
            }
            for (int part : new int[] {MIN, -1, 2, MAX}) {
                refused(how, "odds(1, " + part + ")", CutCrooked.NO, x -> x.odds(1, part));
                refused(how, "odds(0, " + part + ")", CutCrooked.NO, x -> x.odds(0, part));
                refused(how, "mean(" + part + ")", CutCrooked.NO, x -> x.mean(part));
            }
        }
        refused("new", "odds(1, 0)", CutCrooked.NO, x -> x.odds(1, 0));
        refused("new", "mean(1)", CutCrooked.NO, x -> x.mean(1));
        refused("spent", "odds(1, 0)", 0, x -> x.odds(1, 0));
        refused("spent", "mean(1)", 1, x -> x.mean(1));
    }

    private static void books() {
        DUE.part("book");
        for (int c : new int[] {MIN, -2, 6, MAX}) {
            for (String how : new String[] {"made", "full"}) {
                refused(how, "book(" + c + ", 0)", NONE, x -> x.book(c, 0));
                refused(how, "book(" + c + ", 1000): NONE ahead of BAD", NONE, x -> x.book(c, 1000));
            }
        }
        refused("made", "book(3, 0)", NONE, x -> x.book(3, 0));
        for (int least : new int[] {MIN, -1, 1000, MAX}) {
            refused("made", "book(0, " + least + ")", BAD, x -> x.book(0, least));
            refused("full", "book(0, " + least + "): BAD ahead of FULL", BAD, x -> x.book(0, least));
        }
        refused("full", "book(0, 0)", FULL, x -> x.book(0, 0));
        refused("full", "book(5, 999)", FULL, x -> x.book(5, 999));
    }

    private static void acts() {
        DUE.part("act");
        for (int c : new int[] {MIN, -1, 3, MAX}) {
            unchanged("made", "act(" + c + ", 0, 9)", 0, x -> x.act(c, 0, 9), false);
        }
        for (int act : new int[] {MIN, -1, 3, MAX}) {
            unchanged("made", "act(0, " + act + ", 9)", 0, x -> x.act(0, act, 9), false);
            unchanged("made", "act(3, " + act + ", 9)", 0, x -> x.act(3, act, 9), false);
        }
    }

    private static void traces() {
        DUE.part("trace");
        for (int i : new int[] {MIN, -1, 7, 19, 20, MAX}) {
            refused("made", "trace(" + i + ")", NONE, x -> x.trace(i));
        }
        refused("new", "trace(0)", NONE, x -> x.trace(0));
    }

    private static void kinds() {
        DUE.part("as");
        for (int k : new int[] {MIN, -1, 7, MAX}) {
            refused("made", "as(0, " + k + ")", NONE, x -> x.as(0, k));
            refused("made", "as(3, " + k + ")", NONE, x -> x.as(3, k));
        }
        for (int c : new int[] {MIN, -1, 3, MAX}) {
            refused("made", "as(" + c + ", 0)", NONE, x -> x.as(c, 0));
            refused("made", "as(" + c + ", 1): NONE ahead of -6", NONE, x -> x.as(c, 1));
        }
        refused("made", "as(0, 1)", -6, x -> x.as(0, 1));
    }

    private static void undos() {
        DUE.part("undo");
        refused("new", "undo()", STATE, x -> x.undo());
        refused("full", "undo()", STATE, x -> x.undo());
        refused("spent", "undo()", STATE, x -> x.undo());
    }

    private static void counts() {
        DUE.part("count");
        for (int what : new int[] {MIN, -1, 6, MAX}) {
            refused("made", "count(" + what + ")", NONE, x -> x.count(what));
        }
    }

    /** "All that follows is asked, goes on from how all is, and changes nothing." */
    private static void whatIsAsked() {
        DUE.part("asked");
        for (String how : new String[] {"new", "made", "full", "spent"}) {
            asked(how, "would", x -> x.would(0, 0) + x.would(1, 1) + x.would(2, 6));
            asked(how, "on", x -> x.on(40, 0) + x.on(3, 3) + x.on(7, 10));
            asked(how, "toasted", x -> x.toasted(40, 30));
            asked(how, "lasts", x -> x.lasts());
            asked(how, "order", x -> x.order(-1) + x.order(0));
            asked(how, "cancel", x -> x.cancel());
            asked(how, "enough", x -> x.enough(0) + x.enough(1));
            asked(how, "when", x -> x.when(20, 0) + x.when(3, 1));
            asked(how, "guide", x -> x.guide(40));
            asked(how, "again", x -> x.again(0) + x.again(2));
            asked(how, "evener", x -> x.evener(40, 0) + x.evener(1, 1));
            asked(how, "game", x -> x.game(0, 1, 5, 0) + x.game(2, 0, 4, 1));
            asked(how, "cheese", x -> x.cheese(360, 0) + x.cheese(100, 10));
            asked(how, "who", x -> x.who());
            asked(how, "rows", x -> x.rows(-1) + x.rows(0));
            asked(how, "odds", x -> x.odds(3, 0) + x.odds(2, 1));
            asked(how, "mean", x -> x.mean(0));
            asked(how, "looked", x -> x.looked());
            asked(how, "of, told, as, trace, count", x -> x.of(0, 4) + x.told(10) + x.as(0, 0) + x.trace(0) + x.count(0));
        }
    }

    /** Asked twice it answers alike, and all is as on a twin that was not asked. */
    private static void asked(String how, String call, ToLongFunction<CutCrooked> run) {
        CutCrooked x = Twins.by(how);
        long first = run.applyAsLong(x);
        DUE.is(how + ": " + call + " asked again", run.applyAsLong(x), first);
        Twins.alike(DUE, how + ", behind " + call, x, Twins.by(how), true);
    }
}
