import java.util.Random;

/** Random runs, each call answered by the class and by the model alike. */
public final class ModelTest {
    private static final int[] ODD = {-2147483648, 2147483647, -10, -1, 7, 8, 100, 1000, 41, 4, 5, 6, 9, 13, 14, 16};

    private final Random dice;
    private final Due due;
    private CutCrooked x;
    private Model y;

    private ModelTest(long seed, Due due) {
        dice = new Random(seed);
        this.due = due;
    }

    public static void main(String[] args) {
        int runs = args.length > 0 ? Integer.parseInt(args[0]) : 400;
        Due due = new Due();
        for (int seed = 0; seed < runs; seed++) {
            due.part("run " + seed);
            new ModelTest(seed, due).run(seed);
        }
        due.end();
    }

    private void run(int seed) {
        x = new CutCrooked();
        y = new Model();
        int early = seed % 7;
        for (int i = 0; i < early; i++) {
            cutter();
        }
        for (int i = early; i < 512; ) {
            i += step();
        }
    }

    private int n(int from, int to) {
        if (dice.nextInt(25) == 0) {
            return ODD[dice.nextInt(ODD.length)];
        }
        if (dice.nextInt(25) == 0) {
            return dice.nextBoolean() ? from - 1 : to + 1;
        }
        return dice.nextInt(12) == 0 ? dice.nextBoolean() ? from : to : from + dice.nextInt(to - from + 1);
    }

    private int c() {
        return n(0, Math.max(0, y.men.size() - 1));
    }

    private int what() {
        return dice.nextBoolean() ? n(0, 5) : n(10, 15);
    }

    private void cutter() {
        int k = n(0, 6), v = n(0, 9), u = n(-9, 9), s = n(-9, 9), t = n(1, 40);
        due.is("cutter(" + k + "," + v + "," + u + "," + s + "," + t + ")", x.cutter(k, v, u, s, t),
                y.cutter(k, v, u, s, t));
    }

    private String test() {
        int n = dice.nextInt(3) == 0 ? dice.nextInt(100) : dice.nextInt(10);
        return "" + "cktuls".charAt(dice.nextInt(6)) + "<=>".charAt(dice.nextInt(3)) + n;
    }

    private String e(int open) {
        StringBuilder b = new StringBuilder();
        int parts = 1 + dice.nextInt(3);
        for (int i = 0; i < parts; i++) {
            if (i > 0) {
                b.append(dice.nextBoolean() ? '&' : '|');
            }
            b.append(f(open));
        }
        return b.toString();
    }

    private String f(int open) {
        if (open >= 5 + dice.nextInt(2) || dice.nextInt(3) > 0) {
            return test();
        }
        return dice.nextBoolean() ? "!" + f(open + 1) : "(" + e(open + 1) + ")";
    }

    private String board() {
        StringBuilder b = new StringBuilder();
        int clauses = dice.nextInt(8) == 0 ? 8 + dice.nextInt(5) : 1 + dice.nextInt(4);
        for (int i = 0; i < clauses; i++) {
            if (i > 0) {
                b.append(';');
            }
            int n = dice.nextInt(4) == 0 ? dice.nextInt(100) : dice.nextInt(10);
            int word = clauses > 7 ? dice.nextInt(2) : dice.nextInt(5);
            switch (word) {
                case 0: b.append("thin ").append(dice.nextInt(20)); break;
                case 1: b.append("end ").append(n); break;
                case 2: b.append("pull ").append(n).append(' ').append(e(0)); break;
                default: b.append("slip ").append(n).append(' ').append(e(0)); break;
            }
        }
        if (dice.nextInt(3) == 0 && b.length() > 0) {
            int at = dice.nextInt(b.length());
            String signs = "cktuls<=>&|!(); 0123456789thineqx";
            switch (dice.nextInt(4)) {
                case 0: b.setLength(at); break;
                case 1: b.setCharAt(at, signs.charAt(dice.nextInt(signs.length()))); break;
                case 2: b.insert(at, signs.charAt(dice.nextInt(signs.length()))); break;
                default: b.deleteCharAt(at); break;
            }
        }
        return b.length() > 100 ? b.substring(0, 100) : b.toString();
    }

    private int text() {
        String text = board();
        for (int i = 0; i < text.length(); i++) {
            due.is("feed", x.feed(text.charAt(i)), y.feed(text.charAt(i)));
        }
        due.is("board " + text, x.board(), y.board());
        return text.length() + 1;
    }

    private int step() {
        int a, b, c;
        switch (dice.nextInt(50)) {
            case 0: if (dice.nextInt(4) == 0) return text(); break;
            case 1: a = n(0, 127); due.is("feed " + a, x.feed(a), y.feed(a)); break;
            case 2: if (dice.nextInt(3) == 0) due.is("board", x.board(), y.board()); break;
            case 3: cutter(); break;
            case 4: a = c(); b = n(0, 5); due.is("of " + a + "," + b, x.of(a, b), y.of(a, b)); break;
            case 5: a = c(); b = n(1, 40); due.is("thick " + a + "," + b, x.thick(a, b), y.thick(a, b)); break;
            case 6: case 7: a = c(); b = n(0, 3); c = n(0, 9);
                due.is("row " + a + "," + b + "," + c, x.row(a, b, c), y.row(a, b, c)); break;
            case 8: a = n(40, 999); due.is("loaf " + a, x.loaf(a), y.loaf(a)); break;
            case 9: a = dice.nextInt(3) == 0 ? n(10, 13) : n(0, 7);
                due.is("told " + a, x.told(a), y.told(a)); break;
            case 10: if (dice.nextInt(3) == 0) due.is("right", x.right(), y.right()); break;
            case 11: boolean side = dice.nextBoolean(); due.is("turn " + side, x.turn(side), y.turn(side)); break;
            case 12: a = c(); b = n(0, 6); due.is("would " + a + "," + b, x.would(a, b), y.would(a, b)); break;
            case 13: case 14: a = n(0, 40); b = what(); due.is("on " + a + "," + b, x.on(a, b), y.on(a, b)); break;
            case 15: a = n(0, 40); b = n(0, 99);
                due.is("toasted " + a + "," + b, x.toasted(a, b), y.toasted(a, b)); break;
            case 16: due.is("lasts", x.lasts(), y.lasts()); break;
            case 17: a = n(-1, 4); due.is("order " + a, x.order(a), y.order(a)); break;
            case 18: due.is("cancel", x.cancel(), y.cancel()); break;
            case 19: a = c(); due.is("enough " + a, x.enough(a), y.enough(a)); break;
            case 20: a = n(1, 20); b = n(0, 1); due.is("when " + a + "," + b, x.when(a, b), y.when(a, b)); break;
            case 21: a = n(0, 40); due.is("guide " + a, x.guide(a), y.guide(a)); break;
            case 22: a = c(); due.is("again " + a, x.again(a), y.again(a)); break;
            case 23: a = n(0, 40); b = n(0, 1); due.is("evener " + a + "," + b, x.evener(a, b), y.evener(a, b)); break;
            case 24: case 25: a = c(); b = c(); c = n(1, 5); int w = n(0, 1);
                due.is("game " + a + "," + b + "," + c + "," + w, x.game(a, b, c, w), y.game(a, b, c, w)); break;
            case 26: a = n(12, 360); b = what(); due.is("cheese " + a + "," + b, x.cheese(a, b), y.cheese(a, b)); break;
            case 27: see(); break;
            case 28: see(); due.is("who", x.who(), y.who()); break;
            case 29: case 30: a = dice.nextBoolean() ? n(-99, 99) : aim(4);
                due.is("week " + a, x.week(a), y.week(a)); break;
            case 31: if (dice.nextBoolean()) due.is("clear", x.clear(), y.clear()); break;
            case 32: case 33: a = n(-1, 3); due.is("rows " + a, x.rows(a), y.rows(a)); break;
            case 34: a = n(1, 3); b = n(0, 1); due.is("odds " + a + "," + b, x.odds(a, b), y.odds(a, b)); break;
            case 35: a = n(0, 1); due.is("mean " + a, x.mean(a), y.mean(a)); break;
            case 36: a = dice.nextInt(6) == 0 ? -1 : c(); b = dice.nextBoolean() ? n(0, 999) : aim(1);
                due.is("book " + a + "," + b, x.book(a, b), y.book(a, b)); break;
            case 37: case 38: due.is("looked", x.looked(), y.looked()); break;
            case 39: case 40: a = c(); b = n(0, 2); c = dice.nextInt();
                due.is("act " + a + "," + b + "," + c, x.act(a, b, c), y.act(a, b, c)); break;
            case 41: a = n(0, 20); due.is("trace " + a, x.trace(a), y.trace(a)); break;
            case 42: a = c(); b = n(0, 6); due.is("as " + a + "," + b, x.as(a, b), y.as(a, b)); break;
            case 43: if (dice.nextInt(3) == 0) due.is("image", x.image(), y.image()); break;
            case 44: if (dice.nextInt(3) == 0) due.is("undo", x.undo(), y.undo()); break;
            case 45: a = n(0, 5); due.is("count " + a, x.count(a), y.count(a)); break;
            default: a = c(); due.is("cut " + a, x.cut(a), y.cut(a)); break;
        }
        return 1;
    }

    private void see() {
        int a = dice.nextBoolean() ? n(-99, 99) : aim(4);
        int b = dice.nextBoolean() ? n(-99, 99) : aim(5);
        due.is("see " + a + "," + b, x.see(a, b), y.see(a, b));
    }

    /** What the next cut of one would show, so that what is told by hand fits at times. */
    private int aim(int what) {
        int got = y.would(dice.nextInt(Math.max(1, y.men.size())), what);
        return got == -10001 || got == -10005 ? 0 : got;
    }
}
