import java.util.Random;

/** Promise 11 and term 2: every short tape over some signs, and many drawn ones, against the model's texts. */
public final class TextRuns {
    private static final String SIGNS = "p1+-*<=&|!()s";
    private static final int LONGEST = 5;
    private static final int DRAWN = 60000;

    private static StandStill x = new StandStill();
    private static int calls = 0;

    /** An object is used for 512 calls at most. */
    private static void makeRoom(int more) {
        calls += more;
        if (calls > 512) {
            x = new StandStill();
            calls = more;
        }
    }

    private static void faultOf(int use, String text) {
        makeRoom(9);
        int fault = Model.Texts.fault(text, "sd".charAt(use));
        Due.due("text " + use + " of " + text, Due.text(x, use, text), fault < 0 ? 1 : -10 - fault);
    }

    private static void allFrom(String start) {
        faultOf(0, start);
        if (start.length() < LONGEST) {
            for (char sign : SIGNS.toCharArray()) {
                allFrom(start + sign);
            }
        }
    }

    private static int held(int v) {
        return Math.max(0, Math.min(99, v));
    }

    /** What a TOLD one SPENDS by a text. */
    private static void spending(Random random) {
        String text = ModelRuns.drawTape(random, 0);
        faultOf(0, text);
        if (Model.Texts.fault(text, 's') >= 0) {
            return;
        }
        int m = random.nextInt(10);
        int sun = random.nextInt(10);
        int patience = 1 + random.nextInt(999);
        makeRoom(12);
        Due.text(x, 0, text);
        x.stander(0, 60 + m);
        x.sun(sun);
        x.patience(0, patience);
        Due.due("SPENDS by " + text + " with s " + sun + ", p " + patience + ", m " + m, x.standerIs(0, 5),
            held(Model.Texts.work(text, 's', sun, patience, m)));
    }

    /** What a stir takes from one by a text. */
    private static void shaking(Random random) {
        String text = ModelRuns.drawTape(random, 1);
        if (Model.Texts.fault(text, 'd') >= 0) {
            return;
        }
        StandStill y = new StandStill();
        int one = random.nextInt(9);
        int other = (one + 1 + random.nextInt(8)) % 9;
        int m = random.nextInt(10);
        int patience = 100 + random.nextInt(900);
        Due.text(y, 1, text);
        y.stander(other, m);
        y.patience(other, patience);
        y.poke(one);
        int away = Math.abs(one - other);
        int shaken = held(Model.Texts.work(text, 'd', away, patience, m));
        // where others stir, too, the other one is shaken more than once
        if (y.count(2) == 8) {
            Due.due("SHAKEN by " + text + " with d " + away + ", p " + patience + ", m " + m,
                y.standerIs(other, 3), patience - shaken);
        }
    }

    public static void main(String[] args) {
        allFrom("");
        Random random = new Random(7);
        for (int k = 0; k < DRAWN; k++) {
            spending(random);
            shaking(random);
        }
        Due.end("TextRuns");
    }
}
