/** Counts the answers that are not due; tests end by it. */
final class Due {
    static final int BEYOND = -1000000001;
    static final int NONE = -1000000002;
    static final int STATE = -1000000003;
    static final int FULL = -1000000004;
    static final int KIND = -1000000005;
    static final int PARTED = -1000000006;

    private static int asked = 0;
    private static int wrong = 0;

    private Due() {
    }

    static void due(String what, long got, long want) {
        asked++;
        if (got != want) {
            wrong++;
            System.out.println(what + " answered " + got + ", due is " + want);
        }
    }

    static void holds(String what, boolean so) {
        asked++;
        if (!so) {
            wrong++;
            System.out.println("not so: " + what);
        }
    }

    static boolean allWell() {
        return wrong == 0;
    }

    static void end(String name) {
        System.out.println(name + ": " + asked + " asked, " + wrong + " wrong");
        if (wrong != 0 || asked == 0) {
            System.exit(1);
        }
    }

    /** Feeds a text of any length, eight bytes at a time: what the last feed answered. */
    static int feed(StandStill x, String text) {
        int answer = 0;
        for (int from = 0; from < text.length(); from += 8) {
            int n = Math.min(8, text.length() - from);
            long word = 0;
            for (int b = n - 1; b >= 0; b--) {
                word = word << 8 | (text.charAt(from + b) & 255);
            }
            answer = x.feed(word, n);
        }
        return answer;
    }

    static int text(StandStill x, int use, String text) {
        feed(x, text);
        return x.text(use);
    }
}
