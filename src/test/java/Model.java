import java.util.ArrayList;
import java.util.List;

/**
 * The document once more, slow and written otherwise: worlds are copied whole, texts are split instead of read,
 * sets and rows are tried one by one. ModelRuns compares the class with it.
 */
final class Model {
    private static final int[] ABOVE = {-1, 0, 0, 0, 1, 2, 0};
    private static final int[][] BODIES = {
        {10, 11, 12, 13}, {20, 0, 0, 21}, {0, 30, 0, 0}, {0, 0, 40, 0}, {50, 0, 51, 0}, {0, 60, 0, 0}, {70, 71, 0, 0}};

    private static final class Parted extends RuntimeException {
        private static final long serialVersionUID = 1;
    }

    private static final class Man {
        int kind;
        int m;
        int post;
        int patience = 60;
        int out = -1;

        boolean stands() {
            return out == -1;
        }

        Man copy() {
            Man c = new Man();
            c.kind = kind;
            c.m = m;
            c.post = post;
            c.patience = patience;
            c.out = out;
            return c;
        }
    }

    private static final class World {
        final List<Man> men = new ArrayList<>();
        final String[] texts = new String[2];
        String tape = "";
        final List<Integer> waits = new ArrayList<>();
        int sun = 1;
        int minute = 0;
        int z = 1;

        World copy() {
            World c = new World();
            for (Man man : men) {
                c.men.add(man.copy());
            }
            c.texts[0] = texts[0];
            c.texts[1] = texts[1];
            c.tape = tape;
            c.waits.addAll(waits);
            c.sun = sun;
            c.minute = minute;
            c.z = z;
            return c;
        }

        int spends(Man a) {
            int[] byKind = {1 + sun, 1, 1 + sun - a.m / 2, 1 + sun, 1 + a.m % 3, 1 + sun - a.m / 2, 1 + sun};
            int v = byKind[a.kind];
            if (a.kind == 6 && texts[0] != null) {
                v = Texts.work(texts[0], 's', sun, a.patience, a.m);
            }
            return Math.min(99, Math.max(0, v));
        }

        int bite(Man a) {
            return new int[] {10, 0, 10, 10 + 3 * a.m, 2, 20, 10}[a.kind];
        }

        int standing() {
            int n = 0;
            for (Man a : men) {
                n += a.stands() ? 1 : 0;
            }
            return n;
        }

        int set() {
            int bits = 0;
            for (int i = 0; i < 9; i++) {
                bits += men.get(i).stands() ? 1 << i : 0;
            }
            return bits;
        }

        void settle() {
            for (int i = 0; i < 9; i++) {
                Man a = men.get(i);
                if (a.stands() && a.patience == 0) {
                    a.out = minute;
                    for (Man b : men) {
                        if (b != a && b.stands()) {
                            int d = Math.max(a.post, b.post) - Math.min(a.post, b.post);
                            int v = d == 1 ? 8 : 0;
                            if (texts[1] != null) {
                                v = Texts.work(texts[1], 'd', d, b.patience, b.m);
                            }
                            b.patience -= Math.min(b.patience, Math.min(99, Math.max(0, v)));
                        }
                    }
                    settle();
                    return;
                }
            }
        }

        void minute() {
            minute++;
            for (Man a : men) {
                if (a.stands()) {
                    a.patience -= Math.min(a.patience, spends(a));
                }
            }
            settle();
        }

        void fly(int post) {
            for (Man a : men) {
                if (a.post == post && a.stands()) {
                    a.patience -= Math.min(a.patience, bite(a));
                }
            }
            settle();
        }

        void poke(int i) {
            men.get(i).patience = 0;
            settle();
        }

        World after(int n) {
            World c = copy();
            for (int k = 0; k < n; k++) {
                c.minute();
            }
            return c;
        }

        int lasts(int i) {
            World c = copy();
            for (int k = 1; k <= 200; k++) {
                c.minute();
                if (!c.men.get(i).stands()) {
                    return k;
                }
            }
            return 201;
        }
    }

    /** TEXTS by splitting them at the signs that bind least. */
    static final class Texts {
        private Texts() {
        }

        static int fault(String text, char own) {
            for (int n = 1; n <= text.length(); n++) {
                if (!goesOn(text.substring(0, n), own)) {
                    return n - 1;
                }
            }
            return isText(text, own, 0, 0) ? -1 : text.length();
        }

        private static boolean goesOn(String start, char own) {
            for (int closing = 0; closing <= 5; closing++) {
                String end = ")".repeat(closing);
                if (isText(start + end, own, 0, 0) || isText(start + "p" + end, own, 0, 0)) {
                    return true;
                }
            }
            return false;
        }

        private static final String[] LEVELS = {"|", "&", "<=>", "+-", "*/%"};

        private static List<Integer> signs(String s, int level) {
            List<Integer> at = new ArrayList<>();
            int deep = 0;
            for (int i = 0; i < s.length(); i++) {
                char c = s.charAt(i);
                deep += c == '(' ? 1 : c == ')' ? -1 : 0;
                if (deep == 0 && LEVELS[level].indexOf(c) >= 0) {
                    at.add(i);
                }
            }
            return at;
        }

        private static boolean isText(String s, char own, int level, int open) {
            if (level == 5) {
                return isUnit(s, own, open);
            }
            List<Integer> at = signs(s, level);
            if (level == 2 && at.size() > 1) {
                return false;
            }
            int from = 0;
            for (int i : at) {
                if (!isText(s.substring(from, i), own, level + 1, open)) {
                    return false;
                }
                from = i + 1;
            }
            return isText(s.substring(from), own, level + 1, open);
        }

        private static boolean isUnit(String s, char own, int open) {
            if (s.matches("[0-9]{1,4}") || s.matches("[pm" + own + "]")) {
                return true;
            }
            if (open == 5 || s.isEmpty()) {
                return false;
            }
            if (s.charAt(0) == '!') {
                return isUnit(s.substring(1), own, open + 1);
            }
            return s.length() > 2 && s.charAt(0) == '(' && s.charAt(s.length() - 1) == ')'
                && isText(s.substring(1, s.length() - 1), own, 0, open + 1);
        }

        static int work(String s, char own, int v, int p, int m) {
            for (int level = 0; level < 5; level++) {
                List<Integer> at = signs(s, level);
                if (!at.isEmpty()) {
                    int i = at.get(at.size() - 1);
                    return join(s.charAt(i), work(s.substring(0, i), own, v, p, m),
                        work(s.substring(i + 1), own, v, p, m));
                }
            }
            char c = s.charAt(0);
            if (c == '!') {
                return work(s.substring(1), own, v, p, m) == 0 ? 1 : 0;
            }
            if (c == '(') {
                return work(s.substring(1, s.length() - 1), own, v, p, m);
            }
            return c == own ? v : c == 'p' ? p : c == 'm' ? m : Integer.parseInt(s);
        }

        private static int join(char c, int a, int b) {
            boolean so;
            switch (c) {
                case '+': return a + b;
                case '-': return a - b;
                case '*': return a * b;
                case '/': return b == 0 ? 0 : a / b;
                case '%': return b == 0 ? 0 : a % b;
                case '<': so = a < b; break;
                case '=': so = a == b; break;
                case '>': so = a > b; break;
                case '&': so = a != 0 & b != 0; break;
                default: so = a != 0 | b != 0; break;
            }
            return so ? 1 : 0;
        }
    }

    private World w = new World();
    private World kept = null;
    private int images = 0;
    private final int[] errors = new int[7];
    private List<Integer> trace = new ArrayList<>();
    private final int[][] sheets = new int[4][];
    private final int[] bits = new int[4];

    Model() {
        for (int i = 0; i < 9; i++) {
            w.men.add(new Man());
            w.men.get(i).post = i;
        }
    }

    private int error(int k) {
        errors[k]++;
        return -1000000000 - k;
    }

    private static boolean off(int v, int least, int most) {
        return v < least || v > most;
    }

    private Man man(int i) {
        return w.men.get(i);
    }

    int stander(int i, int km) {
        if (off(i, 0, 8) || off(km, 0, 69)) {
            return error(1);
        }
        int was = man(i).kind * 10 + man(i).m;
        man(i).kind = km / 10;
        man(i).m = km % 10;
        return was;
    }

    int standerIs(int i, int what) {
        if (off(i, 0, 8) || off(what, 0, 6)) {
            return error(1);
        }
        Man a = man(i);
        return new int[] {a.kind, a.m, a.post, a.patience, a.out, w.spends(a), w.bite(a)}[what];
    }

    int as(int i, int kind) {
        if (off(i, 0, 8) || off(kind, 0, 6)) {
            return error(1);
        }
        for (int k = man(i).kind; k >= 0; k = ABOVE[k]) {
            if (k == kind) {
                return man(i).m;
            }
        }
        return error(5);
    }

    int patience(int i, int v) {
        if (off(i, 0, 8) || off(v, 0, 999)) {
            return error(1);
        }
        if (!man(i).stands()) {
            return error(3);
        }
        int was = man(i).patience;
        man(i).patience = v;
        w.settle();
        return was;
    }

    int swap(int i, int j) {
        if (off(i, 0, 8) || off(j, 0, 8)) {
            return error(1);
        }
        if (!man(i).stands() || !man(j).stands()) {
            return error(3);
        }
        int post = man(i).post;
        man(i).post = man(j).post;
        man(j).post = post;
        return man(i).post;
    }

    int again(int i, int v) {
        if (off(i, 0, 8) || off(v, 1, 999)) {
            return error(1);
        }
        if (man(i).stands()) {
            return error(3);
        }
        man(i).out = -1;
        man(i).patience = v;
        return 1;
    }

    int sun(int v) {
        if (off(v, 0, 9)) {
            return error(1);
        }
        int was = w.sun;
        w.sun = v;
        return was;
    }

    int at(int post) {
        for (int i = 0; i < 9; i++) {
            if (man(i).post == post) {
                return i;
            }
        }
        return error(1);
    }

    int feed(long word, int n) {
        if (off(n, 1, 8)) {
            return error(1);
        }
        if (w.tape.length() + n > 60) {
            return error(4);
        }
        for (int b = 0; b < n; b++) {
            w.tape += (char) (word >> 8 * b & 255);
        }
        return w.tape.length();
    }

    int text(int use) {
        if (off(use, 0, 1)) {
            return error(1);
        }
        int fault = Texts.fault(w.tape, "sd".charAt(use));
        if (fault < 0) {
            w.texts[use] = w.tape;
        }
        w.tape = "";
        return fault < 0 ? 1 : -10 - fault;
    }

    int untell(int use) {
        if (off(use, 0, 1)) {
            return error(1);
        }
        int was = w.texts[use] == null ? 0 : 1;
        w.texts[use] = null;
        return was;
    }

    int minutes(int n) {
        if (off(n, 1, 200)) {
            return error(1);
        }
        if (w.minute > 9999 - n) {
            return error(3);
        }
        int before = w.standing();
        w = w.after(n);
        return before - w.standing();
    }

    int fly(int post) {
        if (off(post, 0, 8)) {
            return error(1);
        }
        int before = w.standing();
        w.fly(post);
        return before - w.standing();
    }

    int poke(int i) {
        if (off(i, 0, 8)) {
            return error(1);
        }
        if (!man(i).stands()) {
            return error(3);
        }
        int before = w.standing();
        w.poke(i);
        return before - w.standing();
    }

    int draws(int n) {
        if (off(n, 1, 60)) {
            return error(1);
        }
        int before = w.standing();
        for (int f = 0; f < n; f++) {
            w.z = (int) ((long) w.z * 1103515245L + 12345L);
            w.fly((int) (((long) w.z & 0xFFFFFFFFL) / 256 % 9));
        }
        return before - w.standing();
    }

    int seed(int v) {
        int was = w.z;
        w.z = v;
        return was;
    }

    int then(int n, int i, int what) {
        if (off(n, 0, 200) || off(i, 0, 8) || off(what, 2, 4)) {
            return error(1);
        }
        Man a = w.after(n).men.get(i);
        return what == 2 ? a.post : what == 3 ? a.patience : a.out;
    }

    int standing(int n) {
        return off(n, 0, 200) ? error(1) : w.after(n).standing();
    }

    int lasts(int i) {
        if (off(i, 0, 8)) {
            return error(1);
        }
        if (!man(i).stands()) {
            return error(3);
        }
        int v = w.lasts(i);
        return v == 201 ? error(2) : v;
    }

    int lastOne() {
        int best = -1;
        for (int i = 8; i >= 0; i--) {
            if (man(i).stands() && (best < 0 || w.lasts(i) >= w.lasts(best))) {
                best = i;
            }
        }
        return best < 0 ? error(2) : best;
    }

    int round(int i, int n, int what) {
        if (off(i, 0, 8) || off(n, 1, 3) || off(what, 0, 1)) {
            return error(1);
        }
        if (!man(i).stands()) {
            return error(3);
        }
        int fewest = 99;
        int row = 0;
        for (int told = 1; told <= 999; told++) {
            String figures = Integer.toString(told);
            if (figures.length() != n || figures.indexOf('0') >= 0) {
                continue;
            }
            World c = w.copy();
            for (char figure : figures.toCharArray()) {
                c.fly(figure - '1');
            }
            int others = w.standing() - c.standing() - 1;
            if (!c.men.get(i).stands() && others < fewest) {
                fewest = others;
                row = told;
            }
        }
        return row == 0 ? error(2) : what == 0 ? fewest : row;
    }

    int change(int i, int what) {
        if (off(i, 0, 8) || off(what, 0, 1)) {
            return error(1);
        }
        if (!man(i).stands()) {
            return error(3);
        }
        int best = -1;
        int most = -1;
        for (int j = 0; j < 9; j++) {
            if (man(j).stands()) {
                swap(i, j);
                int v = w.lasts(i);
                swap(i, j);
                if (v > most) {
                    most = v;
                    best = j;
                }
            }
        }
        return what == 0 ? best : most;
    }

    int empties(int what) {
        if (off(what, 0, 1)) {
            return error(1);
        }
        for (int size = 0; size <= 9; size++) {
            for (int set = 0; set < 512; set++) {
                if (Integer.bitCount(set) == size && (set & w.set()) == set) {
                    World c = w.copy();
                    for (int i = 0; i < 9; i++) {
                        if ((set & 1 << i) != 0 && c.men.get(i).stands()) {
                            c.poke(i);
                        }
                    }
                    if (c.standing() == 0) {
                        return what == 0 ? size : set;
                    }
                }
            }
        }
        throw new IllegalStateException("all of them empty the row");
    }

    int whose(int set) {
        if (off(set, 0, 511)) {
            return error(1);
        }
        int found = 0;
        for (int i = 0; i < 9; i++) {
            if (man(i).stands()) {
                World c = w.copy();
                c.poke(i);
                found += (w.set() ^ c.set()) == set ? 1 << i : 0;
            }
        }
        return found;
    }

    long slate(int s, int part) {
        if (off(s, 0, 3) || off(part, 0, 1)) {
            return error(1);
        }
        if (sheets[s] == null || sheets[s].length < 9) {
            return error(2);
        }
        java.math.BigInteger above = java.math.BigInteger.ZERO;
        java.math.BigInteger below = java.math.BigInteger.ONE;
        for (int i = 0; i < 9; i++) {
            if (off(sheets[s][i], 1, 99)) {
                return error(6);
            }
            java.math.BigInteger v = java.math.BigInteger.valueOf(sheets[s][i]);
            above = above.multiply(v).add(below);
            below = below.multiply(v);
        }
        java.math.BigInteger common = above.gcd(below);
        return (part == 0 ? above : below).divide(common).longValueExact();
    }

    int voice(int i, int voice, int x) {
        if (off(i, 0, 8) || off(voice, 0, 3)) {
            return error(1);
        }
        List<Integer> begun = new ArrayList<>();
        try {
            int answer = say(man(i).kind, voice, x, i, begun);
            trace = begun;
            return answer;
        } catch (Parted p) {
            return error(6);
        }
    }

    /** The BODY that a kind has, or the next above. */
    private int say(int from, int voice, int x, int i, List<Integer> begun) {
        int owner = from;
        while (BODIES[owner][voice] == 0) {
            owner = ABOVE[owner];
        }
        int kind = man(i).kind;
        int m = man(i).m;
        int up = ABOVE[owner];
        begun.add(BODIES[owner][voice]);
        switch (BODIES[owner][voice]) {
            case 10: return x + i;
            case 11: return say(kind, 0, x, i, begun) * 2;
            case 12: return say(kind, 1, x, i, begun) - m;
            case 13:
                if (m == i) {
                    throw new Parted();
                }
                return (int) ((long) x / (m - i));
            case 20: return say(up, 0, x, i, begun) - 4;
            case 21: return say(up, 3, x, i, begun) + say(kind, 1, 1, i, begun);
            case 30: return -say(up, 1, x, i, begun);
            case 40: return say(up, 2, x / 2, i, begun);
            case 50: return say(up, 0, x, i, begun) * 3;
            case 51: return say(up, 2, x, i, begun) ^ i;
            case 60: return say(up, 1, x + 1, i, begun);
            case 70: return 9;
            default: return say(up, 1, x, i, begun) + m;
        }
    }

    int body(int i) {
        return off(i, 0, trace.size() - 1) ? error(2) : trace.get(i);
    }

    int sheet(int s, int width, int n) {
        if (off(s, 0, 3) || (width != 0 && width != 8 && width != 16 && width != 32)) {
            return error(1);
        }
        if (width == 0) {
            sheets[s] = null;
            return 1;
        }
        if (n < 0) {
            return error(3);
        }
        if (n > 24) {
            return error(1);
        }
        sheets[s] = new int[n];
        bits[s] = width;
        return 1;
    }

    int put(int s, int i, int v) {
        if (off(s, 0, 3)) {
            return error(1);
        }
        if (sheets[s] == null) {
            return error(2);
        }
        if (off(i, 0, sheets[s].length - 1)) {
            return error(1);
        }
        sheets[s][i] = bits[s] == 32 ? v : v & (1 << bits[s]) - 1;
        return 1;
    }

    int move(int s, int i, int t, int j, int n) {
        if (off(s, 0, 3) || off(t, 0, 3)) {
            return error(1);
        }
        if (sheets[s] == null || sheets[t] == null) {
            return error(2);
        }
        if (bits[s] != bits[t]) {
            return error(5);
        }
        if (n < 0 || i < 0 || j < 0 || (long) i + n > sheets[s].length || (long) j + n > sheets[t].length) {
            return error(1);
        }
        int[] were = sheets[s].clone();
        for (int k = 0; k < n; k++) {
            sheets[t][j + k] = were[i + k];
        }
        return n;
    }

    int flies(int s) {
        if (off(s, 0, 3)) {
            return error(1);
        }
        if (sheets[s] == null) {
            return error(2);
        }
        int n = 0;
        for (int v : sheets[s]) {
            if (off(v, 0, 8)) {
                break;
            }
            w.fly(v);
            n++;
        }
        return n;
    }

    int judge(int s) {
        if (off(s, 0, 3)) {
            return error(1);
        }
        if (sheets[s] == null) {
            return error(2);
        }
        for (int k = 0; k < sheets[s].length; k++) {
            if (w.after(k).standing() != sheets[s][k]) {
                return k;
            }
        }
        return sheets[s].length;
    }

    int image() {
        kept = w.copy();
        return ++images;
    }

    int restore() {
        if (kept == null) {
            return error(2);
        }
        w = kept.copy();
        return w.minute;
    }

    int tell(int v) {
        if (w.waits.size() == 24) {
            return error(4);
        }
        w.waits.add(v);
        return w.waits.size();
    }

    int check() {
        List<Man> then = w.after(200).men;
        int answer = 0;
        for (int i = w.waits.size() - 1; i >= 0; i--) {
            if (i > 8 || w.waits.get(i) != then.get(i).out) {
                answer = 1 + i;
            }
        }
        w.waits.clear();
        return answer;
    }

    int count(int what) {
        if (off(what, 0, 7)) {
            return error(1);
        }
        int patience = 0;
        for (Man a : w.men) {
            patience += a.stands() ? a.patience : 0;
        }
        return new int[] {
            w.minute, w.sun, w.standing(), patience, w.tape.length(), w.waits.size(), trace.size(), w.z}[what];
    }

    int told(int k) {
        return off(k, 1, 6) ? error(1) : errors[k];
    }
}
