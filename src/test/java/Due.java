/** Counts the answers of one test class and tells those that are not as due. */
final class Due {
    private int right;
    private int wrong;
    private String part = "";

    void part(String name) {
        part = name;
    }

    void is(String call, long got, long want) {
        if (got == want) {
            right++;
            return;
        }
        wrong++;
        System.out.println(part + ": " + call + " answered " + got + ", due is " + want);
    }

    void end() {
        System.out.println(right + " passed, " + wrong + " failed");
        if (wrong != 0 || right == 0) {
            System.exit(1);
        }
    }

    static void feed(CutCrooked x, String text) {
        for (int i = 0; i < text.length(); i++) {
            x.feed(text.charAt(i));
        }
    }

    /** Feeds a text and makes it a board. */
    static int board(CutCrooked x, String text) {
        feed(x, text);
        return x.board();
    }
}
