/** Objects that went through the same calls, so that one call more on one of them shows in what it answers then. */
final class Twins {
    private Twins() {
    }

    /** A bit of all: three cutters, a sloping face, a board, a begun tape, SEEN, WEEK, BOOK, a trace and an image. */
    static CutCrooked made() {
        CutCrooked x = new CutCrooked();
        x.cutter(6, 3, 2, -1, 12);
        x.cutter(0, 5, 3, 2, 20);
        x.cutter(4, 7, 0, 0, 8);
        x.row(0, 1, 9);
        Due.board(x, "thin 5;end 7;slip 3 s>0|u>1");
        x.loaf(400);
        x.cut(1);
        x.image();
        x.cut(0);
        x.thick(1, 21);
        x.see(8, 1);
        x.week(3);
        x.book(1, 9);
        Due.feed(x, "en");
        x.act(2, 2, 4);
        return x;
    }

    /** Full where it can be: six cutters, five boards, a tape of 100, four of WEEK, eight of BOOK; no image. */
    static CutCrooked full() {
        CutCrooked x = new CutCrooked();
        for (int kind = 1; kind <= 6; kind++) {
            x.cutter(kind, kind, 2, -1, 10 + kind);
        }
        for (int i = 0; i < 5; i++) {
            Due.board(x, "thin " + (5 + i));
        }
        x.cut(2);
        for (int i = 0; i < 100; i++) {
            x.feed('x');
        }
        for (int i = 0; i < 4; i++) {
            x.week(i);
        }
        for (int i = 0; i < 8; i++) {
            x.book(i % 6, 5);
        }
        return x;
    }

    /** A loaf that lies below END, so that nothing can be done with it. */
    static CutCrooked spent() {
        CutCrooked x = new CutCrooked();
        x.cutter(4, 1, 0, 0, 40);
        x.cutter(5, 2, 9, 9, 40);
        Due.board(x, "end 99");
        x.loaf(40);
        return x;
    }

    static CutCrooked by(String how) {
        switch (how) {
            case "made": return made();
            case "full": return full();
            case "spent": return spent();
            default: return new CutCrooked();
        }
    }

    /** Whether both answer all that can be asked alike, and go on alike. */
    static void alike(Due due, String call, CutCrooked x, CutCrooked y, boolean traced) {
        for (int what = 0; what <= (traced ? 5 : 4); what++) {
            due.is(call + ": count(" + what + ")", x.count(what), y.count(what));
        }
        for (int i = 0; traced && i < 8; i++) {
            due.is(call + ": trace(" + i + ")", x.trace(i), y.trace(i));
        }
        for (int what = 0; what < 14; what++) {
            due.is(call + ": told(" + what + ")", x.told(what), y.told(what));
        }
        for (int c = 0; c < 6; c++) {
            for (int what = 0; what <= 5; what++) {
                due.is(call + ": of(" + c + ", " + what + ")", x.of(c, what), y.of(c, what));
            }
            due.is(call + ": would(" + c + ", 4)", x.would(c, 4), y.would(c, 4));
        }
        due.is(call + ": who()", x.who(), y.who());
        due.is(call + ": looked()", x.looked(), y.looked());
        for (int k = -1; k < 4; k++) {
            due.is(call + ": rows(" + k + ")", x.rows(k), y.rows(k));
        }
        for (int k = 0; k < 4; k++) {
            due.is(call + ": row(0, " + k + ", 5)", x.row(0, k, 5), y.row(0, k, 5));
        }
        due.is(call + ": feed", x.feed('d'), y.feed('d'));
        Due.feed(x, " 9");
        Due.feed(y, " 9");
        due.is(call + ": board()", x.board(), y.board());
        due.is(call + ": told(7)", x.told(7), y.told(7));
        due.is(call + ": cut(0)", x.cut(0), y.cut(0));
        due.is(call + ": undo()", x.undo(), y.undo());
        for (int what = 0; what < 8; what++) {
            due.is(call + ": told(" + what + ") behind undo", x.told(what), y.told(what));
        }
        for (int k = 0; k < 4; k++) {
            due.is(call + ": row(0, " + k + ", 5) behind undo", x.row(0, k, 5), y.row(0, k, 5));
        }
    }
}
