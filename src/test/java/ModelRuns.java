import java.util.Arrays;
import java.util.Random;

/** Runs of drawn calls, each asked of the class and of the model: the answers must be the same. */
public final class ModelRuns {
    private static final int RUNS = 1500;
    private static final int CALLS = 512;

    private interface OnClass {
        long answer(StandStill x, long[] v);
    }

    private interface OnModel {
        long answer(Model x, long[] v);
    }

    /** ranges: the least and the most of each argument; often: how likely among all. */
    private record Act(String name, int often, long[] ranges, OnClass real, OnModel model) {
    }

    private static final long ANY = Integer.MIN_VALUE;
    private static final long MOST = Integer.MAX_VALUE;

    private static Act act(String name, int often, OnClass real, OnModel model, long... ranges) {
        return new Act(name, often, ranges, real, model);
    }

    private static final Act[] ACTS = {
        act("stander", 8, (x, v) -> x.stander(i(v, 0), i(v, 1)), (x, v) -> x.stander(i(v, 0), i(v, 1)), 0, 8, 0, 69),
        act("standerIs", 8, (x, v) -> x.standerIs(i(v, 0), i(v, 1)), (x, v) -> x.standerIs(i(v, 0), i(v, 1)),
            0, 8, 0, 6),
        act("as", 3, (x, v) -> x.as(i(v, 0), i(v, 1)), (x, v) -> x.as(i(v, 0), i(v, 1)), 0, 8, 0, 6),
        act("patience", 6, (x, v) -> x.patience(i(v, 0), i(v, 1)), (x, v) -> x.patience(i(v, 0), i(v, 1)),
            0, 8, 0, 999),
        act("patience", 4, (x, v) -> x.patience(i(v, 0), i(v, 1)), (x, v) -> x.patience(i(v, 0), i(v, 1)),
            0, 8, 0, 40),
        act("swap", 4, (x, v) -> x.swap(i(v, 0), i(v, 1)), (x, v) -> x.swap(i(v, 0), i(v, 1)), 0, 8, 0, 8),
        act("again", 12, (x, v) -> x.again(i(v, 0), i(v, 1)), (x, v) -> x.again(i(v, 0), i(v, 1)), 0, 8, 1, 999),
        act("again", 12, (x, v) -> x.again(i(v, 0), i(v, 1)), (x, v) -> x.again(i(v, 0), i(v, 1)), 0, 8, 1, 60),
        act("sun", 3, (x, v) -> x.sun(i(v, 0)), (x, v) -> x.sun(i(v, 0)), 0, 9),
        act("at", 2, (x, v) -> x.at(i(v, 0)), (x, v) -> x.at(i(v, 0)), 0, 8),
        act("feed", 2, (x, v) -> x.feed(v[0], i(v, 1)), (x, v) -> x.feed(v[0], i(v, 1)),
            Long.MIN_VALUE / 2, Long.MAX_VALUE / 2, 1, 8),
        act("text", 1, (x, v) -> x.text(i(v, 0)), (x, v) -> x.text(i(v, 0)), 0, 1),
        act("untell", 1, (x, v) -> x.untell(i(v, 0)), (x, v) -> x.untell(i(v, 0)), 0, 1),
        act("minutes", 2, (x, v) -> x.minutes(i(v, 0)), (x, v) -> x.minutes(i(v, 0)), 1, 200),
        act("minutes", 4, (x, v) -> x.minutes(i(v, 0)), (x, v) -> x.minutes(i(v, 0)), 1, 5),
        act("fly", 6, (x, v) -> x.fly(i(v, 0)), (x, v) -> x.fly(i(v, 0)), 0, 8),
        act("poke", 2, (x, v) -> x.poke(i(v, 0)), (x, v) -> x.poke(i(v, 0)), 0, 8),
        act("draws", 2, (x, v) -> x.draws(i(v, 0)), (x, v) -> x.draws(i(v, 0)), 1, 60),
        act("seed", 1, (x, v) -> x.seed(i(v, 0)), (x, v) -> x.seed(i(v, 0)), ANY, MOST),
        act("then", 3, (x, v) -> x.then(i(v, 0), i(v, 1), i(v, 2)), (x, v) -> x.then(i(v, 0), i(v, 1), i(v, 2)),
            0, 200, 0, 8, 2, 4),
        act("standing", 3, (x, v) -> x.standing(i(v, 0)), (x, v) -> x.standing(i(v, 0)), 0, 200),
        act("lasts", 3, (x, v) -> x.lasts(i(v, 0)), (x, v) -> x.lasts(i(v, 0)), 0, 8),
        act("lastOne", 3, (x, v) -> x.lastOne(), (x, v) -> x.lastOne()),
        act("round", 3, (x, v) -> x.round(i(v, 0), i(v, 1), i(v, 2)), (x, v) -> x.round(i(v, 0), i(v, 1), i(v, 2)),
            0, 8, 1, 3, 0, 1),
        act("change", 3, (x, v) -> x.change(i(v, 0), i(v, 1)), (x, v) -> x.change(i(v, 0), i(v, 1)), 0, 8, 0, 1),
        act("empties", 3, (x, v) -> x.empties(i(v, 0)), (x, v) -> x.empties(i(v, 0)), 0, 1),
        act("whose", 2, (x, v) -> x.whose(i(v, 0)), (x, v) -> x.whose(i(v, 0)), 0, 511),
        act("slate", 3, (x, v) -> x.slate(i(v, 0), i(v, 1)), (x, v) -> x.slate(i(v, 0), i(v, 1)), 0, 3, 0, 1),
        act("voice", 6, (x, v) -> x.voice(i(v, 0), i(v, 1), i(v, 2)), (x, v) -> x.voice(i(v, 0), i(v, 1), i(v, 2)),
            0, 8, 0, 3, ANY, MOST),
        act("voice", 3, (x, v) -> x.voice(i(v, 0), i(v, 1), i(v, 2)), (x, v) -> x.voice(i(v, 0), i(v, 1), i(v, 2)),
            0, 8, 0, 3, -99, 99),
        act("body", 6, (x, v) -> x.body(i(v, 0)), (x, v) -> x.body(i(v, 0)), 0, 5),
        act("sheet", 1, (x, v) -> x.sheet(i(v, 0), i(v, 1), i(v, 2)), (x, v) -> x.sheet(i(v, 0), i(v, 1), i(v, 2)),
            0, 3, 7, 9, -2, 26),
        act("sheet", 3, (x, v) -> x.sheet(i(v, 0), 8 << v[1], i(v, 2)), (x, v) -> x.sheet(i(v, 0), 8 << v[1], i(v, 2)),
            0, 3, 0, 2, 0, 24),
        act("sheet 0", 1, (x, v) -> x.sheet(i(v, 0), 0, i(v, 1)), (x, v) -> x.sheet(i(v, 0), 0, i(v, 1)),
            0, 3, ANY, MOST),
        act("put", 5, (x, v) -> x.put(i(v, 0), i(v, 1), i(v, 2)), (x, v) -> x.put(i(v, 0), i(v, 1), i(v, 2)),
            0, 3, 0, 23, 0, 9),
        act("put", 3, (x, v) -> x.put(i(v, 0), i(v, 1), i(v, 2)), (x, v) -> x.put(i(v, 0), i(v, 1), i(v, 2)),
            0, 3, 0, 8, ANY, MOST),
        act("move", 4, (x, v) -> x.move(i(v, 0), i(v, 1), i(v, 2), i(v, 3), i(v, 4)),
            (x, v) -> x.move(i(v, 0), i(v, 1), i(v, 2), i(v, 3), i(v, 4)), 0, 3, 0, 12, 0, 3, 0, 12, 0, 12),
        act("flies", 3, (x, v) -> x.flies(i(v, 0)), (x, v) -> x.flies(i(v, 0)), 0, 3),
        act("judge", 3, (x, v) -> x.judge(i(v, 0)), (x, v) -> x.judge(i(v, 0)), 0, 3),
        act("image", 1, (x, v) -> x.image(), (x, v) -> x.image()),
        act("restore", 2, (x, v) -> x.restore(), (x, v) -> x.restore()),
        act("tell", 5, (x, v) -> x.tell(i(v, 0)), (x, v) -> x.tell(i(v, 0)), -1, 99),
        act("check", 1, (x, v) -> x.check(), (x, v) -> x.check()),
        act("count", 8, (x, v) -> x.count(i(v, 0)), (x, v) -> x.count(i(v, 0)), 0, 7),
        act("told", 3, (x, v) -> x.told(i(v, 0)), (x, v) -> x.told(i(v, 0)), 1, 6),
    };

    private static int i(long[] v, int at) {
        return (int) v[at];
    }

    private static Act drawAct(Random random) {
        int all = Arrays.stream(ACTS).mapToInt(Act::often).sum();
        int left = random.nextInt(all);
        for (Act act : ACTS) {
            left -= act.often();
            if (left < 0) {
                return act;
            }
        }
        throw new IllegalStateException("the parts are less than all");
    }

    private static long[] drawArguments(Random random, Act act) {
        long[] v = new long[act.ranges().length / 2];
        for (int a = 0; a < v.length; a++) {
            long least = act.ranges()[2 * a];
            long most = act.ranges()[2 * a + 1];
            v[a] = least + Math.floorMod(random.nextLong(), most - least + 1);
            if (random.nextInt(25) == 0 && most < MOST) {
                v[a] = new long[] {least - 1, most + 1, ANY, MOST, least, most}[random.nextInt(6)];
            }
        }
        return v;
    }

    /** A text that is one, most often; its depth is drawn, too, so that some are open too often. */
    static String drawText(Random random, String names, int deep) {
        String signs = "|&<=>+-*/%";
        StringBuilder text = new StringBuilder();
        int parts = 1 + random.nextInt(deep > 0 ? 3 : 1);
        for (int part = 0; part < parts; part++) {
            if (part > 0) {
                text.append(signs.charAt(random.nextInt(signs.length())));
            }
            switch (deep > 0 ? random.nextInt(5) : random.nextInt(3)) {
                case 0: text.append(random.nextInt(random.nextBoolean() ? 12 : 10000)); break;
                case 3: text.append('(').append(drawText(random, names, deep - 1)).append(')'); break;
                case 4: text.append('!').append(drawText(random, names, 0)); break;
                default: text.append(names.charAt(random.nextInt(names.length()))); break;
            }
        }
        return text.toString();
    }

    static String drawTape(Random random, int use) {
        String text = drawText(random, use == 0 ? "spm" : "dpm", random.nextInt(7));
        if (random.nextInt(4) == 0 && !text.isEmpty()) {
            int at = random.nextInt(text.length());
            String odd = "|&<=>+-*/%!()0123456789spmdx \u00e9\u00ff\u0000";
            text = text.substring(0, at) + odd.charAt(random.nextInt(odd.length()))
                + text.substring(at + random.nextInt(2));
        }
        return text.substring(0, Math.min(text.length(), 60));
    }

    /** Feeds a drawn text, whole, and makes it the TEXT of a USE: how many calls that took. */
    private static int tellText(Random random, int run, StandStill real, Model model) {
        int use = random.nextInt(2);
        String text = drawTape(random, use);
        int calls = 0;
        for (int from = 0; from < text.length(); from += 8) {
            int n = Math.min(8, text.length() - from);
            long word = random.nextLong();
            for (int b = 0; b < n; b++) {
                word = word & ~(255L << 8 * b) | (long) (text.charAt(from + b) & 255) << 8 * b;
            }
            Due.due("run " + run + ": feed of " + text, real.feed(word, n), model.feed(word, n));
            calls++;
        }
        Due.due("run " + run + ": text " + use + " of " + text, real.text(use), model.text(use));
        return calls + 1;
    }

    private static void run(int run) {
        Random random = new Random(run);
        StandStill real = new StandStill();
        Model model = new Model();
        StringBuilder told = new StringBuilder();
        int call = 0;
        while (call < CALLS - 10 && Due.allWell()) {
            if (random.nextInt(40) == 0) {
                call += tellText(random, run, real, model);
                continue;
            }
            Act act = drawAct(random);
            long[] v = drawArguments(random, act);
            long got = act.real().answer(real, v);
            told.append(act.name()).append(Arrays.toString(v)).append(" = ").append(got).append('\n');
            Due.due("run " + run + ", call " + call + ": " + act.name() + Arrays.toString(v),
                got, act.model().answer(model, v));
            call++;
        }
        if (!Due.allWell()) {
            System.out.println(told.substring(Math.max(0, told.length() - 2000)));
        }
    }

    public static void main(String[] args) {
        for (int run = 0; run < RUNS && Due.allWell(); run++) {
            run(run);
        }
        Due.end("ModelRuns");
    }
}
