import java.util.ArrayList;
import java.util.List;

/** The document once more, slowly and by other ways, to be held against CutCrooked. */
final class Model {
    static final int NONE = -1, BAD = -2, STATE = -3, FULL = -4;
    static final long NO = Long.MIN_VALUE;
    static final int[] ABOVE = {-1, 0, 0, 0, 1, 2, 3};

    record Man(int i, int kind, int v, int u, int s, int thick, int eaten, List<Integer> row) {
        Man thick(int t) { return new Man(i, kind, v, u, s, t, eaten, row); }
        Man ate(int w) { return new Man(i, kind, v, u, s, thick, eaten + w, row); }
        Man row(List<Integer> r) { return new Man(i, kind, v, u, s, thick, eaten, r); }
        Man half() { return new Man(i, kind, v, u / 2, s / 2, thick, eaten, row); }
    }

    record Face(int at, int up, int side, int slices, int waste) {
        int[] corners() { return new int[] {at + up - side, at + up + side, at - up - side, at - up + side}; }
        int low() { int m = Integer.MAX_VALUE; for (int c : corners()) m = Math.min(m, c); return m; }
        Face right() {
            int sum = 0;
            for (int c : corners()) sum += c - low();
            return new Face(low(), 0, 0, slices, waste + sum);
        }
    }

    record Clause(String word, int n, String e) { }

    record Slice(Face face, int weight, int least, int most) { }

    record All(List<Man> men, int length, Face face, List<Clause> clauses, int boards, String tape, int seenUp,
            int seenSide, List<Integer> week, List<int[]> book) { }

    List<Man> men = new ArrayList<>();
    int length = 300;
    Face face = new Face(300, 0, 0, 0, 0);
    List<Clause> clauses = new ArrayList<>();
    int boards;
    String tape = "";
    int seenUp, seenSide;
    List<Integer> week = new ArrayList<>();
    List<int[]> book = new ArrayList<>();
    All image;
    List<Integer> trace = new ArrayList<>();

    // ---- boards

    int feed(int sign) {
        if (sign < 0 || sign > 127) return BAD;
        if (tape.length() == 100) return FULL;
        tape += (char) sign;
        return tape.length();
    }

    int board() {
        if (boards == 5) return FULL;
        String text = tape;
        tape = "";
        int fault = fault(text);
        if (fault >= 0) return -10 - fault;
        clauses = new ArrayList<>();
        for (String c : text.split(";")) {
            String[] p = c.split(" ");
            clauses.add(new Clause(p[0], Integer.parseInt(p[1]), p.length > 2 ? p[2] : ""));
        }
        return boards++;
    }

    /** An automaton with a stack, sign by sign. */
    static int fault(String text) {
        String rest = "";
        char state = 'S';
        boolean adding = false;
        int begun = 0;
        String stack = "";
        for (int i = 0; i < text.length(); i++) {
            char c = text.charAt(i);
            boolean digit = c >= '0' && c <= '9';
            if (state == 'n' || state == 'm') {
                boolean two = state == 'n' && digit;
                if (two) { state = 'm'; continue; }
                state = adding ? 'B' : 'Z';
            }
            if (state == 'd' || state == 'D') {
                if (state == 'd' && digit) { state = 'D'; continue; }
                state = 'A';
                while (stack.endsWith("!")) stack = stack.substring(0, stack.length() - 1);
            }
            switch (state) {
                case 'S':
                    int k = "tesp".indexOf(c);
                    if (k < 0) return i;
                    rest = new String[] {"hin ", "nd ", "lip ", "ull "}[k];
                    adding = k >= 2;
                    begun++;
                    state = 'W';
                    break;
                case 'W':
                    if (rest.charAt(0) != c) return i;
                    rest = rest.substring(1);
                    if (rest.isEmpty()) state = 'N';
                    break;
                case 'N':
                    if (!digit) return i;
                    state = c == '0' ? 'm' : 'n';
                    break;
                case 'B':
                    if (c != ' ') return i;
                    state = 'F';
                    break;
                case 'F':
                    if (c == '!' || c == '(') {
                        if (stack.length() == 5) return i;
                        stack += c;
                        break;
                    }
                    if ("cktuls".indexOf(c) < 0) return i;
                    state = 'O';
                    break;
                case 'O':
                    if ("<=>".indexOf(c) < 0) return i;
                    state = 'V';
                    break;
                case 'V':
                    if (!digit) return i;
                    state = c == '0' ? 'D' : 'd';
                    break;
                case 'A':
                    if (c == '&' || c == '|') { state = 'F'; break; }
                    if (c == ')' && stack.endsWith("(")) {
                        stack = stack.substring(0, stack.length() - 1);
                        while (stack.endsWith("!")) stack = stack.substring(0, stack.length() - 1);
                        break;
                    }
                    if (!stack.isEmpty()) return i;
                    // falls to the end of a clause
                case 'Z':
                    if (c != ';' || begun == 10) return i;
                    state = 'S';
                    break;
                default: throw new IllegalStateException();
            }
        }
        if (state == 'd' || state == 'D') while (stack.endsWith("!")) stack = stack.substring(0, stack.length() - 1);
        boolean whole = (state == 'n' || state == 'm') && !adding || "dDA".indexOf(state) >= 0 && stack.isEmpty();
        return whole ? -1 : text.length();
    }

    static int top(String e, char sign) {
        int open = 0;
        for (int i = e.length() - 1; i >= 0; i--) {
            if (e.charAt(i) == ')') open++;
            if (e.charAt(i) == '(') open--;
            if (open == 0 && e.charAt(i) == sign) return i;
        }
        return -1;
    }

    static boolean holds(String e, Man m, Face f) {
        int or = top(e, '|');
        if (or >= 0) return holds(e.substring(0, or), m, f) || holds(e.substring(or + 1), m, f);
        int and = top(e, '&');
        if (and >= 0) return holds(e.substring(0, and), m, f) && holds(e.substring(and + 1), m, f);
        if (e.startsWith("!")) return !holds(e.substring(1), m, f);
        if (e.startsWith("(")) return holds(e.substring(1, e.length() - 1), m, f);
        int n = Integer.parseInt(e.substring(2));
        int x = switch (e.charAt(0)) {
            case 'c' -> m.i;
            case 'k' -> m.kind;
            case 't' -> m.thick;
            case 'u' -> Math.abs(f.up);
            case 'l' -> f.at / 10;
            default -> f.slices % 10;
        };
        return e.charAt(1) == '<' ? x < n : e.charAt(1) == '=' ? x == n : x > n;
    }

    int last(String word, int without) {
        int n = without;
        for (Clause c : clauses) if (c.word.equals(word)) n = c.n;
        return n;
    }

    int thin() { return last("thin", 3); }

    int end() { return last("end", 10); }

    int added(String word, Man m, Face f, boolean half) {
        int n = 0;
        for (Clause c : clauses) if (c.word.equals(word) && holds(c.e, m, f)) n += half ? c.n / 2 : c.n;
        return n;
    }

    // ---- a cut

    static int hold(int n) { return n < -99 ? -99 : n > 99 ? 99 : n; }

    Slice slice(Face f, Man m, boolean half, boolean endless) {
        int slip = added("slip", m, f, half), pull = added("pull", m, f, half);
        if (half) m = m.half();
        Face old = f;
        if (m.kind == 4 && (f.up != 0 || f.side != 0)) old = f.right();
        if (m.kind == 5) old = new Face(f.at, -f.up, f.side, f.slices, f.waste);
        int up = 0, side = 0;
        switch (m.kind) {
            case 0: up = m.u; side = m.s; break;
            case 2: case 5: up = m.u + old.up / 2; side = m.s + old.side / 2; break;
            case 3: up = m.u + old.up; side = m.s + old.side; break;
            case 6: up = old.up + m.row.get(old.slices % 4) - 4; side = m.s + old.side; break;
            default: break;
        }
        Face n = new Face(old.at - m.thick, hold(up + slip), hold(side + pull), old.slices + 1, old.waste);
        if (!endless && n.low() < end()) return null;
        int w = 0, least = 9999, most = 0;
        for (int k = 0; k < 4; k++) {
            int d = Math.max(0, old.corners()[k] - n.corners()[k]);
            w += d;
            least = Math.min(least, d);
            most = Math.max(most, d);
        }
        return new Slice(n, w, least, most);
    }

    Slice slice(Face f, Man m) { return slice(f, m, false, false); }

    Man man(int i) { return i >= 0 && i < men.size() ? men.get(i) : null; }

    static boolean in(int n, int a, int b) { return n >= a && n <= b; }

    int cutter(int kind, int v, int u, int s, int thick) {
        if (!in(kind, 0, 6)) return NONE;
        if (!in(v, 0, 9) || !in(u, -9, 9) || !in(s, -9, 9) || !in(thick, 1, 40)) return BAD;
        if (men.size() == 6) return FULL;
        men.add(new Man(men.size(), kind, v, u, s, thick, 0, List.of(4, 4, 4, 4)));
        return men.size() - 1;
    }

    int of(int i, int what) {
        Man m = man(i);
        if (m == null || !in(what, 0, 5)) return -10001;
        return new int[] {m.kind, m.v, m.u, m.s, m.thick, m.eaten}[what];
    }

    int thick(int i, int n) {
        if (man(i) == null) return NONE;
        if (!in(n, 1, 40)) return BAD;
        int old = man(i).thick;
        men.set(i, man(i).thick(n));
        return old;
    }

    int row(int i, int k, int n) {
        if (man(i) == null || !in(k, 0, 3)) return NONE;
        if (!in(n, 0, 9)) return BAD;
        if (man(i).kind != 6) return STATE;
        List<Integer> row = new ArrayList<>(man(i).row);
        int old = row.set(k, n);
        men.set(i, man(i).row(row));
        return old;
    }

    int loaf(int n) {
        if (!in(n, 40, 999)) return BAD;
        int old = length;
        length = n;
        face = new Face(n, 0, 0, 0, 0);
        return old;
    }

    int told(int what) {
        if (in(what, 10, 13)) return face.corners()[what - 10];
        if (!in(what, 0, 7)) return -10001;
        return new int[] {length, face.at, face.up, face.side, face.slices, face.waste, thin(), end()}[what];
    }

    int cut(int i) {
        if (man(i) == null) return NONE;
        Slice s = slice(face, man(i));
        if (s == null || face.slices == 999) return STATE;
        face = s.face;
        men.set(i, man(i).ate(s.weight));
        return s.weight;
    }

    int right() {
        if (face.low() < end()) return STATE;
        int was = face.waste;
        face = face.right();
        return face.waste - was;
    }

    int turn(boolean side) {
        face = new Face(face.at, side ? face.up : -face.up, side ? -face.side : face.side, face.slices, face.waste);
        return side ? face.side : face.up;
    }

    // ---- slices to come

    int would(int i, int what) {
        if (man(i) == null || !in(what, 0, 6)) return -10001;
        Slice s = slice(face, man(i));
        if (s == null) return -10005;
        Face f = s.face;
        return new int[] {s.weight, s.least, s.most, f.at, f.up, f.side, f.waste - face.waste}[what];
    }

    List<Slice> course(int n, int right, boolean half) {
        List<Slice> all = new ArrayList<>();
        Face f = face;
        for (int i = 0; i < n && !men.isEmpty(); i++) {
            if (i == right && f.low() >= end()) f = f.right();
            Slice s = slice(f, men.get(i % men.size()), half, false);
            if (s == null) break;
            all.add(s);
            f = s.face;
        }
        return all;
    }

    int good(List<Slice> all) { return (int) all.stream().filter(s -> s.least >= thin()).count(); }

    int[] eaten(List<Slice> all) {
        int[] e = new int[6];
        for (int i = 0; i < all.size(); i++) e[i % men.size()] += all.get(i).weight;
        return e;
    }

    int on(int n, int what) {
        if (!in(what, 0, 5) && !in(what, 10, 9 + men.size())) return -10001;
        if (!in(n, 0, 40)) return -10002;
        List<Slice> all = course(n, -1, false);
        Face f = all.isEmpty() ? face : all.get(all.size() - 1).face;
        if (what >= 10) return eaten(all)[what - 10];
        return new int[] {f.at, f.up, f.side, f.waste - face.waste, all.size(), good(all)}[what];
    }

    int toasted(int n, int m) {
        if (!in(n, 0, 40) || !in(m, 0, 99)) return BAD;
        return (int) course(n, -1, false).stream().filter(s -> s.most <= m).count();
    }

    int lasts() { return course(200, -1, false).size(); }

    /** All rows of so many cutters, by numbers. */
    List<List<Integer>> all(int n) {
        List<List<Integer>> rows = new ArrayList<>();
        rows.add(List.of());
        for (int i = 0; i < n; i++) {
            List<List<Integer>> next = new ArrayList<>();
            for (List<Integer> r : rows) {
                for (int c = 0; c < men.size(); c++) {
                    List<Integer> longer = new ArrayList<>(r);
                    longer.add(c);
                    next.add(longer);
                }
            }
            rows = next;
        }
        return rows;
    }

    /** The slices of a row, or null if one can not be cut. */
    List<Slice> slices(List<Integer> row) {
        List<Slice> all = new ArrayList<>();
        Face f = face;
        for (int c : row) {
            Slice s = slice(f, men.get(c));
            if (s == null) return null;
            all.add(s);
            f = s.face;
        }
        return all;
    }

    int order(int k) {
        if (!in(k, -1, 4)) return NONE;
        if (men.size() > 5) return -9;
        int least = Integer.MAX_VALUE;
        List<Integer> first = null;
        for (List<Integer> r : all(men.size())) {
            if (r.stream().distinct().count() < r.size()) continue;
            List<Slice> s = slices(r);
            if (s == null) continue;
            int sum = s.stream().mapToInt(x -> x.most - x.least).sum();
            if (sum < least) { least = sum; first = r; }
        }
        if (first == null || k >= first.size()) return -5;
        return k < 0 ? least : first.get(k);
    }

    int cancel() {
        int least = Integer.MAX_VALUE, pair = -5;
        for (List<Integer> r : all(2)) {
            List<Slice> s = slices(r);
            if (s == null) continue;
            int sum = Math.abs(s.get(1).face.up) + Math.abs(s.get(1).face.side);
            if (sum < least) { least = sum; pair = 10 * r.get(0) + r.get(1); }
        }
        return pair;
    }

    int enough(int i) {
        if (man(i) == null) return NONE;
        for (int t = 1; t <= 40; t++) {
            Slice s = slice(face, man(i).thick(t));
            if (s != null && s.least >= thin()) return t;
        }
        return -5;
    }

    int when(int n, int what) {
        if (!in(what, 0, 1)) return NONE;
        if (!in(n, 1, 20)) return BAD;
        int without = good(course(n, -1, false)), most = -1, at = -1;
        for (int k = n - 1; k >= 0; k--) {
            int g = good(course(n, k, false));
            if (g >= most) { most = g; at = k; }
        }
        if (most <= without) return -5;
        return what == 0 ? at : most;
    }

    int guide(int n) {
        if (!in(n, 0, 40)) return -10002;
        return good(course(n, -1, true)) - good(course(n, -1, false));
    }

    int again(int i) {
        if (man(i) == null) return NONE;
        Face f = face;
        for (int n = 1; n <= 20; n++) {
            Face g = slice(f, man(i), false, true).face;
            f = new Face(face.at, g.up, g.side, g.slices, g.waste);
            if (f.up == face.up && f.side == face.side) return n;
        }
        return -5;
    }

    int evener(int n, int what) {
        if (!in(what, 0, 1)) return NONE;
        if (!in(n, 0, 40)) return BAD;
        if (men.isEmpty()) return -5;
        int[] e = eaten(course(n, -1, false));
        int most = Integer.MIN_VALUE, least = Integer.MAX_VALUE, who = 0;
        for (int i = 0; i < men.size(); i++) {
            int all = e[i] + men.get(i).eaten;
            if (all > most) { most = all; who = i; }
            least = Math.min(least, all);
        }
        return what == 0 ? who : most - least;
    }

    /** The difference for the first one, and what the one at turn does. */
    int[] play(Face f, Man one, Man other, boolean ones, int n) {
        if (n == 0) return new int[] {0, -5};
        Man m = ones ? one : other;
        int[] best = null;
        int[] ways = {m.thick, Math.min(40, m.thick + 5), Math.max(1, m.thick - 5)};
        for (int w = 0; w < 3; w++) {
            Slice s = slice(f, m.thick(ways[w]));
            if (s == null) continue;
            int d = (ones ? s.weight : -s.weight) + play(s.face, one, other, !ones, n - 1)[0];
            if (best == null || (ones ? d > best[0] : d < best[0])) best = new int[] {d, w};
        }
        return best != null ? best : new int[] {play(f, one, other, !ones, n - 1)[0], -5};
    }

    int game(int one, int other, int n, int what) {
        if (man(one) == null || man(other) == null || !in(what, 0, 1)) return -10001;
        if (one == other || !in(n, 1, 5)) return -10002;
        return play(face, man(one), man(other), true, n)[what];
    }

    int cheese(int n, int what) {
        if (!in(what, 0, 1) && !in(what, 10, 9 + men.size())) return NONE;
        if (!in(n, 12, 360)) return BAD;
        int wedges = 0, left = n;
        int[] has = new int[6];
        while (!men.isEmpty() && men.get(wedges % men.size()).thick <= left) {
            int t = men.get(wedges % men.size()).thick;
            has[wedges % men.size()] += t;
            left -= t;
            wedges++;
        }
        return what >= 10 ? has[what - 10] : what == 0 ? wedges : left;
    }

    // ---- seen, rows, odds, books

    int see(int up, int side) {
        if (!in(up, -99, 99) || !in(side, -99, 99)) return BAD;
        seenUp = up;
        seenSide = side;
        return 1;
    }

    int who() {
        int bits = 0;
        for (Man m : men) {
            Slice s = slice(face, m);
            if (s != null && s.face.up == seenUp && s.face.side == seenSide) bits += 1 << m.i;
        }
        return bits;
    }

    int week(int up) {
        if (!in(up, -99, 99)) return BAD;
        if (week.size() == 4) return FULL;
        week.add(up);
        return week.size();
    }

    int clear() {
        int n = week.size();
        week.clear();
        return n;
    }

    int rows(int k) {
        if (!in(k, -1, 3)) return NONE;
        List<List<Integer>> fit = new ArrayList<>();
        for (List<Integer> r : all(week.size())) {
            List<Slice> s = slices(r);
            if (s == null) continue;
            boolean so = true;
            for (int j = 0; j < week.size(); j++) so &= s.get(j).face.up == week.get(j);
            if (so) fit.add(r);
        }
        if (k < 0) return fit.size();
        return fit.isEmpty() || k >= week.size() ? -5 : fit.get(0).get(k);
    }

    static long part(long a, long b, int part) {
        for (long d = b; d > 1; d--) {
            if (a % d == 0 && b % d == 0) { a /= d; b /= d; }
        }
        return part == 0 ? a : b;
    }

    long odds(int n, int part) {
        if (!in(n, 1, 3) || !in(part, 0, 1) || men.isEmpty()) return NO;
        List<List<Integer>> all = all(n);
        long fit = 0;
        for (List<Integer> r : all) {
            List<Slice> s = slices(r);
            if (s != null && good(s) == n) fit++;
        }
        return part(fit, all.size(), part);
    }

    long mean(int part) {
        if (!in(part, 0, 1) || men.isEmpty()) return NO;
        long sum = 0;
        for (Man m : men) {
            Slice s = slice(face, m);
            sum += s == null ? 0 : s.weight;
        }
        return part(sum, men.size(), part);
    }

    int book(int i, int least) {
        if (i == -1) { book.clear(); return 0; }
        if (man(i) == null) return NONE;
        if (!in(least, 0, 999)) return BAD;
        if (book.size() == 8) return FULL;
        book.add(new int[] {i, least});
        return book.size();
    }

    int looked() {
        List<Integer> row = new ArrayList<>();
        for (int j = 0; j < book.size(); j++) {
            row.add(book.get(j)[0]);
            List<Slice> s = slices(row);
            if (s == null || s.get(j).least != book.get(j)[1]) return j;
        }
        return -5;
    }

    // ---- acts, the image

    static final int[][] BODIES = {{1, 2, 3}, {11, 0, 0}, {0, 21, 0}, {0, 0, 31}, {0, 0, 41}, {51, 0, 0}, {0, 61, 0}};

    int run(Man m, int from, int act, int x) {
        int kind = from;
        while (BODIES[kind][act] == 0) kind = ABOVE[kind];
        trace.add(BODIES[kind][act]);
        int up = ABOVE[kind];
        switch (BODIES[kind][act]) {
            case 1: return x + m.i;
            case 2: return run(m, m.kind, 0, x) - m.v;
            case 3: return run(m, m.kind, 1, x) * 2;
            case 11: return run(m, up, 0, x * 3);
            case 21: return -run(m, up, 1, x);
            case 31: return run(m, up, 2, x) ^ 7;
            case 41: return run(m, up, 2, x - 1) + run(m, m.kind, 0, 2);
            case 51: return run(m, up, 0, x) ^ m.i;
            default: return run(m, up, 1, x) + m.v;
        }
    }

    int act(int i, int act, int x) {
        trace.clear();
        return man(i) == null || !in(act, 0, 2) ? 0 : run(man(i), man(i).kind, act, x);
    }

    int trace(int i) { return i >= 0 && i < Math.min(20, trace.size()) ? trace.get(i) : NONE; }

    int as(int i, int k) {
        if (man(i) == null || !in(k, 0, 6)) return NONE;
        for (int kind = man(i).kind; kind >= 0; kind = ABOVE[kind]) if (kind == k) return man(i).v;
        return -6;
    }

    int image() {
        image = new All(List.copyOf(men), length, face, List.copyOf(clauses), boards, tape, seenUp, seenSide,
                List.copyOf(week), List.copyOf(book));
        return men.size();
    }

    int undo() {
        if (image == null) return STATE;
        men = new ArrayList<>(image.men);
        length = image.length;
        face = image.face;
        clauses = new ArrayList<>(image.clauses);
        boards = image.boards;
        tape = image.tape;
        seenUp = image.seenUp;
        seenSide = image.seenSide;
        week = new ArrayList<>(image.week);
        book = new ArrayList<>(image.book);
        return men.size();
    }

    int count(int what) {
        if (!in(what, 0, 5)) return NONE;
        return new int[] {men.size(), boards, week.size(), book.size(), tape.length(), trace.size()}[what];
    }
}
