/**
 * The bounds that the document names, sentence by sentence, from the side that is taken: the least, the most, empty,
 * full, wrapped around, cut, held. (What is refused beyond them is RefusedRuns' part.) Answers are worked out by hand.
 */
public final class EdgeRuns {
    private static final int N = Due.NONE;
    private static final int LEAST = Integer.MIN_VALUE;
    private static final int MOST = Integer.MAX_VALUE;

    private static String about = "";

    private static void due(long got, long want) {
        Due.due(about, got, want);
    }

    private static StandStill start(String sentence) {
        about = sentence;
        return new StandStill();
    }

    /** All are ASLEEP, so each spends 1, and nobody shakes anybody. */
    private static StandStill calm(String sentence, int patience) {
        StandStill x = start(sentence);
        Due.text(x, 1, "0");
        for (int i = 0; i < 9; i++) {
            x.stander(i, 10);
            x.patience(i, patience);
        }
        return x;
    }

    private static void pokeAll(StandStill x) {
        for (int i = 0; i < 9; i++) {
            x.poke(i);
        }
    }

    // ---- term 1

    private static void posts() {
        StandStill x = start("POSTS 0 .. 8, STANDERS 0 .. 8");
        for (int i = 0; i < 9; i++) {
            due(x.at(i), i);
            due(x.standerIs(i, 2), i);
        }
        due(x.swap(8, 0), 0);
        due(x.at(0), 8);
        due(x.at(8), 0);
        due(x.fly(0), 0);
        due(x.fly(8), 0);
        due(x.standerIs(8, 3), 50);
        due(x.standerIs(0, 3), 50);
        x = start("side by side: 0 and 8 have one beside them alone");
        due(x.poke(0), 1);
        due(x.poke(8), 1);
        int[] left = {0, 52, 60, 60, 60, 60, 60, 52, 0};
        for (int i = 0; i < 9; i++) {
            due(x.standerIs(i, 3), left[i]);
        }
    }

    private static void kindsAndNumbers() {
        StandStill x = start("KINDS 0 .. 6, m 0 .. 9");
        int was = 0;
        for (int km = 0; km < 70; km++) {
            due(x.stander(0, km), was);
            due(x.standerIs(0, 0), km / 10);
            due(x.standerIs(0, 1), km % 10);
            was = km;
        }
        due(x.as(0, 6), 9);
        due(x.as(0, 0), 9);
        about = "standerIs: what 0 .. 6";
        x.stander(8, 35);
        x.swap(8, 1);
        x.sun(7);
        int[] is = {3, 5, 1, 60, -1, 8, 25};
        for (int what = 0; what <= 6; what++) {
            due(x.standerIs(8, what), is[what]);
        }
    }

    private static void patienceBounds() {
        StandStill x = start("PATIENCE 0 .. 999");
        due(x.patience(4, 999), 60);
        due(x.standerIs(4, 3), 999);
        due(x.patience(4, 1), 999);
        due(x.standerIs(4, 4), -1);
        due(x.patience(4, 0), 1);
        due(x.standerIs(4, 4), 0);
        due(x.standerIs(4, 3), 0);
        due(x.standerIs(3, 3), 52);
        about = "again: PATIENCE 1 .. 999";
        due(x.again(4, 1), 1);
        due(x.standerIs(4, 4), -1);
        due(x.standerIs(4, 3), 1);
        due(x.poke(4), 1);
        due(x.again(4, 999), 1);
        due(x.standerIs(4, 3), 999);
    }

    private static void sunBounds() {
        StandStill x = start("SUN 0 .. 9");
        due(x.sun(0), 1);
        due(x.standerIs(0, 5), 1);
        due(x.sun(9), 0);
        due(x.standerIs(0, 5), 10);
        due(x.count(1), 9);
    }

    private static void minuteBounds() {
        StandStill x = start("MINUTE 0 .. 9999");
        x.sun(0);
        for (int i = 0; i < 9; i++) {
            x.stander(i, 29);
        }
        for (int k = 0; k < 48; k++) {
            due(x.minutes(200), 0);
        }
        due(x.minutes(199), 0);
        due(x.count(0), 9799);
        due(x.image(), 1);
        due(x.minutes(200), 0);
        due(x.count(0), 9999);
        about = "AHEAD: beyond 9999, too";
        due(x.standing(200), 9);
        x.stander(5, 10);
        x.patience(5, 200);
        due(x.lasts(5), 200);
        due(x.then(200, 5, 4), 10199);
        due(x.then(199, 5, 4), -1);
        due(x.lastOne(), 0);
        due(x.change(5, 1), 200);
        for (int v : new int[] {-1, -1, -1, -1, -1, 10199, -1, -1, -1}) {
            x.tell(v);
        }
        due(x.check(), 0);
        due(x.restore(), 9799);
        due(x.minutes(199), 0);
        due(x.minutes(1), 0);
        due(x.count(0), 9999);
    }

    private static void spendsHeld() {
        StandStill x = start("SPENDS 0 .. 99 in the end; the half of m");
        x.sun(0);
        int[] leaning = {1, 1, 0, 0, 0, 0, 0, 0, 0, 0};
        int[] proud = {1, 2, 3, 1, 2, 3, 1, 2, 3, 1};
        for (int m = 0; m < 10; m++) {
            int[] due = {1, 1, leaning[m], 1, proud[m], leaning[m], 1};
            for (int kind = 0; kind < 7; kind++) {
                x.stander(2, 10 * kind + m);
                due(x.standerIs(2, 5), due[kind]);
            }
        }
        x.stander(2, 60);
        String[] texts = {"0-1", "0", "1", "98", "99", "100", "9999", "0-9999", "9999*9999*22"};
        int[] held = {0, 0, 1, 98, 99, 99, 99, 0, 0};
        for (int i = 0; i < texts.length; i++) {
            due(Due.text(x, 0, texts[i]), 1);
            due(x.standerIs(2, 5), held[i]);
        }
        x.patience(2, 200);
        Due.text(x, 0, "100");
        due(x.then(1, 2, 3), 101);
        Due.text(x, 0, "0-1");
        due(x.then(9, 2, 3), 200);
    }

    private static void spendsToZero() {
        StandStill x = start("PATIENCE is less by SPENDS, 0 at least; who is at 0 STIRS, OUT the MINUTE");
        Due.text(x, 1, "0");
        x.sun(4);
        x.patience(0, 4);
        x.patience(3, 5);
        x.patience(6, 6);
        due(x.minutes(1), 2);
        int[] outs = {1, -1, -1, 1, -1, -1, -1, -1, -1};
        int[] left = {0, 55, 55, 0, 55, 55, 1, 55, 55};
        for (int i = 0; i < 9; i++) {
            due(x.standerIs(i, 4), outs[i]);
            due(x.standerIs(i, 3), left[i]);
        }
        due(x.minutes(1), 1);
        due(x.standerIs(0, 4), 1);
        due(x.standerIs(6, 4), 2);
    }

    /** One of a KIND with just a PATIENCE is bitten: what is left, or -1 where one STIRS. */
    private static void bitten(int km, int patience, int left) {
        StandStill x = start("BITE of " + km + " at " + patience);
        x.stander(4, km);
        x.patience(4, patience);
        due(x.fly(4), left < 0 ? 1 : 0);
        due(x.standerIs(4, 3), Math.max(0, left));
        due(x.standerIs(4, 4), left < 0 ? 0 : -1);
    }

    private static void bites() {
        int[][] bites = {
            {0, 10}, {9, 10}, {20, 10}, {29, 10}, {30, 10}, {31, 13}, {39, 37}, {40, 2}, {49, 2}, {50, 20}, {59, 20},
            {60, 10}, {69, 10}};
        for (int[] bite : bites) {
            bitten(bite[0], bite[1] + 1, 1);
            bitten(bite[0], bite[1], -1);
            bitten(bite[0], bite[1] - 1, -1);
        }
        bitten(10, 1, 1);
        bitten(19, 1, 1);
    }

    private static void shaken() {
        StandStill x = start("PATIENCE is less by SHAKEN, 0 at least");
        x.patience(3, 9);
        x.patience(5, 8);
        due(x.poke(4), 2);
        due(x.standerIs(3, 3), 1);
        due(x.standerIs(6, 3), 52);
        due(x.standerIs(2, 3), 60);
        x.patience(7, 7);
        due(x.poke(6), 2);
        due(x.standerIs(8, 3), 52);
        about = "one who has stirred isn't shaken, nor bitten, and spends nothing";
        x = new StandStill();
        x.poke(4);
        x.again(4, 20);
        due(x.standerIs(3, 3), 52);
        x.poke(3);
        due(x.standerIs(4, 3), 12);
        due(x.standerIs(3, 3), 0);
        due(x.fly(3), 0);
        due(x.minutes(1), 0);
        due(x.standerIs(3, 4), 0);
        due(x.count(3), 10 + 2 * 50 + 5 * 58);
    }

    private static void shakenByText() {
        StandStill x = start("SHOCK held within 0 .. 99");
        String[] texts = {"0-1", "0", "1", "98", "99", "100", "9999", "0-9999"};
        int[] held = {0, 0, 1, 98, 99, 99, 99, 0};
        pokeAll(x);
        x.again(8, 200);
        for (int i = 0; i < texts.length; i++) {
            due(Due.text(x, 1, texts[i]), 1);
            x.patience(8, 200);
            x.again(0, 1);
            due(x.poke(0), 1);
            due(x.standerIs(8, 3), 200 - held[i]);
        }
        x = start("SHOCK: d 1 .. 8 how many POSTS away, m and p of the one who is shaken");
        due(Due.text(x, 1, "d"), 1);
        due(x.poke(8), 1);
        for (int i = 0; i < 8; i++) {
            due(x.standerIs(i, 3), 60 - (8 - i));
        }
        x.stander(0, 9);
        x.stander(1, 5);
        due(Due.text(x, 1, "m"), 1);
        due(x.poke(0), 1);
        due(x.standerIs(1, 3), 48);
        due(x.standerIs(2, 3), 54);
        due(Due.text(x, 1, "p/3"), 1);
        due(x.poke(7), 1);
        due(x.standerIs(1, 3), 32);
        due(x.standerIs(2, 3), 36);
        about = "without a TEXT 8 for d 1, else 0";
        due(x.untell(1), 1);
        due(x.poke(4), 1);
        due(x.standerIs(2, 3), 36);
        due(x.standerIs(3, 3), 29);
    }

    private static void settling() {
        StandStill x = start("TO SETTLE: the least such STANDER, not the least POST");
        // 1 is at 7, 7 at 1, both are at 0 by the minute. 1 first halves the 40 of 3, then 7 takes 10 (else 15 were
        // left)
        Due.text(x, 1, "(d=4)*p/2+(d=2)*10");
        x.stander(3, 29);
        x.patience(3, 40);
        x.swap(1, 7);
        x.patience(1, 2);
        x.patience(7, 2);
        due(x.minutes(1), 2);
        due(x.standerIs(3, 3), 10);
        x = start("TO SETTLE: as long as there is one: the whole row");
        for (int i = 0; i < 9; i++) {
            x.patience(i, 8);
        }
        due(x.poke(8), 9);
        due(x.count(2), 0);
        due(x.count(3), 0);
    }

    // ---- term 2

    private static void tapeBounds() {
        for (int n = 1; n <= 8; n++) {
            StandStill x = start("THE TAPE: at most 60 bytes, by " + n);
            int bytes = 0;
            while (bytes + n <= 60) {
                bytes += n;
                due(x.feed(-1L, n), bytes);
            }
            due(x.feed(-1L, n), Due.FULL);
            if (bytes < 60) {
                due(x.feed(-1L, 60 - bytes), 60);
            }
            due(x.feed(-1L, 1), Due.FULL);
            due(x.count(4), 60);
        }
        StandStill x = start("THE TAPE of 60 bytes is a TEXT");
        x.stander(0, 60);
        Due.feed(x, "1+".repeat(28) + "2+3");
        due(x.feed('*', 1), 60);
        due(x.text(0), -70);
        Due.feed(x, "1+".repeat(28) + "2+31");
        due(x.count(4), 60);
        due(x.text(0), 1);
        due(x.standerIs(0, 5), 61);
        due(Due.text(x, 0, "1+".repeat(28) + "2+3)"), -69);
        due(Due.text(x, 0, "1+".repeat(28) + "2+++"), -68);
        due(x.standerIs(0, 5), 61);
        about = "the n lowest bytes, the lowest first";
        due(x.feed(0x39_2A37_2B36_2D35L, 1), 1);
        due(x.text(0), 1);
        due(x.standerIs(0, 5), 5);
        // 9-2-3+10
        due(x.feed(0x3031_2B33_2D32_2D39L, 8), 8);
        due(x.text(0), 1);
        due(x.standerIs(0, 5), 14);
        due(x.feed(0x8000_0000_0000_0033L, 8), 8);
        due(x.text(0), -11);
        due(x.count(4), 0);
    }

    /** A tape of a USE: 1, or the place of its FAULT. */
    private static void textOf(int use, String tape, int fault) {
        StandStill x = new StandStill();
        Due.due("text " + use + " of " + tape, Due.text(x, use, tape), fault < 0 ? 1 : -10 - fault);
        Due.due("told of " + tape, x.told(1) + x.told(2) + x.told(3) + x.told(4) + x.told(5) + x.told(6), 0);
        Due.due("the tape behind " + tape, x.count(4), 0);
        Due.due("untell behind " + tape, x.untell(use), fault < 0 ? 1 : 0);
        Due.due("untell of the other behind " + tape, x.untell(1 - use), 0);
    }

    private static final int FINE = -1;

    private static void faults() {
        for (int use = 0; use <= 1; use++) {
            String own = use == 0 ? "s" : "d";
            String other = use == 0 ? "d" : "s";
            textOf(use, "", 0);
            textOf(use, own, FINE);
            textOf(use, "p", FINE);
            textOf(use, "m", FINE);
            textOf(use, other, 0);
            textOf(use, own + "+" + other, 2);
            textOf(use, own.toUpperCase(), 0);
            textOf(use, own + "p", 1);
            textOf(use, own + "1", 1);
        }
        String[] numbers = {"0", "9", "12", "123", "9999", "0000", "1234+5678"};
        for (String number : numbers) {
            textOf(0, number, FINE);
        }
        textOf(0, "12345", 4);
        textOf(0, "00000", 4);
        textOf(0, "p+12345", 6);
        textOf(0, "(12345)", 5);
        textOf(0, "!12345", 5);
        textOf(0, "1234p", 4);
        textOf(0, "/", 0);
        textOf(0, ":", 0);
        textOf(0, "1:", 1);
        blanksAndOddBytes();
    }

    private static void blanksAndOddBytes() {
        textOf(0, " 1", 0);
        textOf(0, "1 ", 1);
        textOf(0, "1\n", 1);
        textOf(0, "( 1)", 1);
        textOf(0, "\u0000", 0);
        textOf(0, "1\u0000", 1);
        textOf(0, "1\u00ff", 1);
        textOf(0, "\u00ff", 0);
        // a byte that is a sign but for its highest bit, and one that is it in another sheet of signs
        textOf(0, "1" + (char) ('+' | 128) + "1", 1);
        textOf(0, "" + (char) ('1' | 128), 0);
        textOf(0, "1^1", 1);
        textOf(0, "1~", 1);
        textOf(0, "-1", 0);
        textOf(0, "+1", 0);
        textOf(0, "1--1", 2);
        textOf(0, "1!", 1);
        textOf(0, "1!=2", 1);
        textOf(0, "1<=2", 2);
        textOf(0, "1==2", 2);
        textOf(0, "1&&2", 2);
        textOf(0, "1||2", 2);
        for (char sign : "|&<=>+-*/%".toCharArray()) {
            textOf(0, "1" + sign, 2);
            textOf(0, "1" + sign + "2", FINE);
            textOf(0, "1" + sign + ")", 2);
            textOf(0, "" + sign, 0);
        }
    }

    private static void comparedOnce() {
        for (char one : "<=>".toCharArray()) {
            for (char other : "<=>".toCharArray()) {
                textOf(0, "1" + one + "2" + other + "3", 3);
                textOf(0, "(1" + one + "2)" + other + "3", FINE);
                textOf(0, "1" + one + "(2" + other + "3)", FINE);
                textOf(0, "1" + one + "2&2" + other + "3", FINE);
                textOf(0, "1" + one + "2|2" + other + "3", FINE);
                textOf(0, "1" + one + "2+2*3-4" + other + "3", 9);
                textOf(0, "(1" + one + "2" + other + "3)", 4);
            }
        }
    }

    private static void openAtOnce() {
        textOf(0, "(((((1)))))", FINE);
        textOf(0, "((((((1))))))", 5);
        textOf(0, "!!!!!1", FINE);
        textOf(0, "!!!!!!1", 5);
        textOf(0, "!!!!!(1)", 5);
        textOf(0, "(((((!1)))))", 5);
        textOf(0, "!(!(!1))", FINE);
        textOf(0, "!(!(!(1)))", 5);
        textOf(0, "((((1+!1))))", FINE);
        textOf(0, "((((1+!!1))))", 7);
        textOf(0, "((((!1)+!1)+!1)+!1)", FINE);
        textOf(0, "!!!!!1+!!!!!1*(((((1)))))", FINE);
        textOf(0, "(1)+(2)+(3)+(4)+(5)+(6)", FINE);
        textOf(0, "!1+!2+!3+!4+!5+!6", FINE);
        textOf(0, "!!!!(1+!1)", 7);
        textOf(0, "!!!(1+!1)", FINE);
        textOf(0, "!!!(1+!1)+!!!!!!1", 15);
        textOf(0, "(", 1);
        textOf(0, "((((((", 5);
        textOf(0, "(((((", 5);
        textOf(0, "!", 1);
        textOf(0, "!!!!!", 5);
        textOf(0, "!!!!!!", 5);
        textOf(0, "()", 1);
        textOf(0, "(1", 2);
        textOf(0, "(1))", 3);
        textOf(0, "1)", 1);
        textOf(0, ")", 0);
        textOf(0, "!)", 1);
        textOf(0, "(1)(2)", 3);
        textOf(0, "1(2)", 1);
    }

    /** What a TEXT gives, within 0 .. 99. */
    private static void gives(String text, int value) {
        StandStill x = new StandStill();
        x.stander(0, 67);
        Due.due("text of " + text, Due.text(x, 0, text), 1);
        Due.due("SPENDS by " + text, x.standerIs(0, 5), value);
    }

    private static void wrapsAndCuts() {
        gives("9999*9999*21>0", 1);
        gives("9999*9999*22<0", 1);
        gives("1024*1024*2048<0", 1);
        gives("1024*1024*2048-1>0", 1);
        gives("1024*1024*2047+1024*1023+1023>0", 1);
        gives("1024*1024*2047+1024*1023+1024<0", 1);
        gives("1024*1024*4096+5", 5);
        gives("0-1024*1024*2048<0", 1);
        gives("1024*1024*2048/(0-1)<0", 1);
        gives("1024*1024*2048%(0-1)+6", 6);
        gives("7/0+1", 1);
        gives("7%0+1", 1);
        gives("0/0+0%0+2", 2);
        gives("5/(3-3)*9+4%(p-60)", 0);
        gives("10+(0-7)/2", 7);
        gives("10+7/(0-2)", 7);
        gives("10+(0-7)/(0-2)", 13);
        gives("10+(0-7)%4", 7);
        gives("10+7%(0-4)", 13);
        gives("10+(0-7)%(0-4)", 7);
        gives("7/2", 3);
        gives("1/2", 0);
        gives("8/4*2", 4);
        gives("9-4-3", 2);
        gives("9-(4-3)", 8);
        gives("2+3*4", 14);
        gives("17%7%2", 1);
        gives("0099", 99);
        gives("p+s+m", 68);
        // as many signs and numbers as a tape holds
        gives("!1" + "+1".repeat(29), 29);
        gives("1+".repeat(29) + "!0", 30);
        gives("1|".repeat(29) + "!0", 1);
        gives("1&".repeat(29) + "!1", 0);
        gives("1*".repeat(29) + "!0", 1);
    }

    private static void truths() {
        gives("2&4", 1);
        gives("(0-1)&(0-2)", 1);
        gives("0&1", 0);
        gives("1&0", 0);
        gives("0&0", 0);
        gives("2|4", 1);
        gives("0|(0-1)", 1);
        gives("7|0", 1);
        gives("0|0", 0);
        gives("1|1&0", 1);
        gives("!0", 1);
        gives("!1", 0);
        gives("!(0-1)", 0);
        gives("!!7", 1);
        gives("!0+5", 6);
        gives("!p*4+3", 3);
        gives("1<1|2", 1);
        gives("1<2", 1);
        gives("2<2", 0);
        gives("2<1", 0);
        gives("(0-1)<0", 1);
        gives("2>1", 1);
        gives("2>2", 0);
        gives("1>2", 0);
        gives("0>(0-1)", 1);
        gives("(2<1)+(2>3)*2+(1=2)*4+(0&3)*8+(0|0)*16+!3*32+50", 50);
        gives("(1<2)+(3>2)*2+(2=2)*4+(5&3)*8+(0|7)*16+!0*32", 63);
        gives("0-(2<1)+5", 5);
        gives("0-(2>3)+5", 5);
        gives("0-(2=3)+5", 5);
        gives("0-(2&0)+5", 5);
        gives("0-(0|0)+5", 5);
        gives("0-!2+5", 5);
        gives("2=2", 1);
        gives("2=1", 0);
        gives("1=2", 0);
        gives("(0-1)=(1-2)", 1);
        gives("1+1=2", 1);
        gives("2=1+1", 1);
        gives("1024*1024*2048<1024*1024*2048-1", 1);
        gives("1024*1024*2048-1>1024*1024*2048", 1);
    }

    private static void textStays() {
        StandStill x = start("text: in place of one ahead; the one ahead stays at a FAULT");
        x.stander(0, 60);
        due(x.standerIs(0, 5), 2);
        due(Due.text(x, 0, "7"), 1);
        due(x.standerIs(0, 5), 7);
        due(Due.text(x, 0, "8+9+"), -14);
        due(x.count(4), 0);
        due(x.standerIs(0, 5), 7);
        due(x.text(0), -10);
        due(x.standerIs(0, 5), 7);
        due(Due.text(x, 1, "8+x"), -12);
        due(x.untell(1), 0);
        due(Due.text(x, 0, "8"), 1);
        due(x.standerIs(0, 5), 8);
        due(x.untell(0), 1);
        due(x.standerIs(0, 5), 2);
        due(x.untell(0), 0);
        about = "text beyond its uses: THE TAPE stays";
        Due.feed(x, "31");
        due(x.text(2), Due.BEYOND);
        due(x.text(-1), Due.BEYOND);
        due(x.count(4), 2);
        due(x.text(0), 1);
        due(x.standerIs(0, 5), 31);
        about = "SPENDS of a TOLD one alone is by its TEXT";
        for (int kind = 0; kind < 6; kind++) {
            x.stander(0, 10 * kind);
            due(x.standerIs(0, 5), kind == 1 || kind == 4 ? 1 : 2);
        }
    }

    // ---- term 3

    private static void aheadBounds() {
        StandStill x = calm("AHEAD by n: 0 .. 200", 200);
        due(x.then(0, 8, 3), 200);
        due(x.then(0, 8, 4), -1);
        due(x.then(199, 8, 3), 1);
        due(x.then(199, 8, 4), -1);
        due(x.then(200, 8, 3), 0);
        due(x.then(200, 8, 4), 200);
        due(x.then(200, 0, 2), 0);
        due(x.standing(0), 9);
        due(x.standing(199), 9);
        due(x.standing(200), 0);
        due(x.count(0), 0);
        due(x.count(3), 1800);
        due(x.minutes(200), 9);
        due(x.standing(0), 0);
        due(x.then(0, 4, 4), 200);
    }

    private static void lastsBounds() {
        StandStill x = calm("LASTS 1 .. 200", 999);
        x.patience(4, 1);
        due(x.lasts(4), 1);
        x.patience(4, 2);
        due(x.lasts(4), 2);
        x.patience(4, 200);
        due(x.lasts(4), 200);
        due(x.change(4, 1), 200);
        due(x.minutes(1), 0);
        due(x.lasts(4), 199);
        x.patience(4, 201);
        due(x.lasts(4), N);
        due(x.change(4, 1), 201);
    }

    private static void lastOneBounds() {
        StandStill x = calm("LAST ONE: never is longest of all; of several the least", 200);
        due(x.lastOne(), 0);
        x.patience(8, 201);
        due(x.lastOne(), 8);
        x.patience(5, 999);
        due(x.lastOne(), 5);
        x.patience(5, 199);
        x.patience(8, 199);
        x.patience(0, 199);
        due(x.lastOne(), 1);
        for (int i = 0; i < 9; i++) {
            x.patience(i, 1);
        }
        due(x.lastOne(), 0);
        x.patience(7, 2);
        due(x.lastOne(), 7);
        pokeAll(x);
        due(x.lastOne(), N);
        x.again(6, 1);
        due(x.lastOne(), 6);
        x.again(2, 1);
        due(x.lastOne(), 2);
    }

    /** First one at 10 for each of n FLIES, so that all must bite just this one; nobody shakes anybody. */
    private static void roundBounds() {
        for (int n = 1; n <= 3; n++) {
            for (int i = 0; i < 9; i += 4) {
                StandStill x = start("ROUND of " + n + " for " + i);
                Due.text(x, 1, "0");
                x.patience(i, 10 * n);
                int ones = n == 1 ? 1 : n == 2 ? 11 : 111;
                due(x.round(i, n, 0), 0);
                due(x.round(i, n, 1), ones * (i + 1));
                x.patience(i, 10 * n + 1);
                due(x.round(i, n, 0), N);
                due(x.round(i, n, 1), N);
                x.patience(i, 1);
                due(x.round(i, n, 1), (ones - 1) + i + 1);
                due(x.count(2), 9);
            }
        }
        StandStill x = start("ROUND: how many others: none up to all");
        Due.text(x, 1, "99");
        due(x.patience(4, 10), 60);
        due(x.round(4, 1, 0), 8);
        due(x.round(4, 1, 1), 5);
        pokeAll(x);
        x.again(4, 10);
        due(x.round(4, 1, 0), 0);
        about = "ROUND: a row is of n POSTS, not of fewer; who has stirred is no other";
        due(x.round(4, 2, 1), 15);
        due(x.round(4, 3, 1), 115);
        x.untell(1);
        x.again(8, 20);
        due(x.round(8, 1, 0), N);
        due(x.round(8, 2, 0), 0);
        due(x.round(8, 2, 1), 99);
        due(x.round(8, 3, 0), 0);
        due(x.round(8, 3, 1), 199);
    }

    private static void changeBounds() {
        StandStill x = calm("CHANGE: of several the least STANDER that stands", 999);
        due(x.change(8, 0), 0);
        due(x.change(8, 1), 201);
        due(x.change(0, 0), 0);
        x.poke(0);
        due(x.change(8, 0), 1);
        due(x.change(1, 0), 1);
        x = calm("CHANGE: of one that stands alone", 30);
        pokeAll(x);
        x.again(6, 30);
        due(x.change(6, 0), 6);
        due(x.change(6, 1), 30);
        x = calm("CHANGE: with oneself, as it is, if that is longest", 900);
        // 0 and 6 go at once, and take 20 from all who aren't 1 or 5 away: at 5 one is so from both, and at 1, but who
        // had that POST is gone
        x.poke(1);
        Due.text(x, 1, "20*!(d=1)*!(d=5)");
        x.patience(0, 1);
        x.patience(6, 1);
        x.patience(5, 100);
        due(x.change(5, 0), 5);
        due(x.change(5, 1), 100);
        due(x.lasts(5), 100);
        x.again(1, 900);
        due(x.change(5, 0), 1);
        due(x.change(5, 1), 100);
        due(x.at(5), 5);
        x = calm("CHANGE: with the last STANDER", 900);
        // who goes at once at POST 4 takes 20 from all but who stands 4 away: at 0, who is gone, and at 8
        x.poke(0);
        Due.text(x, 1, "20*!(d=4)");
        x.patience(4, 1);
        x.patience(2, 100);
        due(x.change(2, 0), 8);
        due(x.change(2, 1), 100);
        due(x.lasts(2), 80);
    }

    private static void emptiesBounds() {
        StandStill x = calm("EMPTIES: all nine, one, nobody", 999);
        due(x.empties(0), 9);
        due(x.empties(1), 511);
        Due.text(x, 1, "99");
        for (int i = 0; i < 9; i++) {
            x.patience(i, 99);
        }
        due(x.empties(0), 1);
        due(x.empties(1), 1);
        // by 0 all but 8 fall, each of whom takes 99 from 8: 792; by 8 all fall at once
        x.patience(8, 792);
        due(x.empties(0), 1);
        due(x.empties(1), 1);
        x.patience(8, 793);
        due(x.empties(0), 1);
        due(x.empties(1), 256);
        due(x.count(2), 9);
        pokeAll(x);
        due(x.empties(0), 0);
        due(x.empties(1), 0);
        x.again(8, 5);
        due(x.empties(0), 1);
        due(x.empties(1), 256);
    }

    private static void whoseBounds() {
        StandStill x = calm("WHOSE: sets 0 .. 511", 99);
        due(x.whose(0), 0);
        due(x.whose(1), 1);
        due(x.whose(256), 256);
        due(x.whose(511), 0);
        Due.text(x, 1, "99");
        due(x.whose(511), 511);
        due(x.whose(510), 0);
        due(x.whose(0), 0);
        x.poke(0);
        due(x.whose(511), 0);
        due(x.whose(510), 0);
        due(x.whose(0), 0);
        x.again(8, 1);
        due(x.whose(256), 256);
        due(x.whose(511), 0);
    }

    private static void slateBounds() {
        int[] prices = {1, 99};
        for (int bits = 8; bits <= 32; bits *= 2) {
            for (int price : prices) {
                StandStill x = start("SLATE of nine times " + price);
                x.sheet(0, bits, 9);
                for (int i = 0; i < 9; i++) {
                    x.put(0, i, price);
                }
                due(x.slate(0, 0), price == 1 ? 9 : 1);
                due(x.slate(0, 1), price == 1 ? 1 : 11);
            }
        }
        StandStill x = start("SLATE: beyond the ints, the first nine of more");
        x.sheet(3, 8, 24);
        int[] nine = {99, 98, 97, 95, 89, 83, 79, 73, 71};
        for (int i = 0; i < 9; i++) {
            x.put(3, i, nine[i]);
        }
        long below = 99L * 98 * 97 * 95 * 89 * 83 * 79 * 73 * 71;
        long above = 0;
        for (int price : nine) {
            above += below / price;
        }
        due(x.slate(3, 0), above);
        due(x.slate(3, 1), below);
        due(x.put(3, 0, 256 + 99), 1);
        due(x.slate(3, 1), below);
        x = start("SLATE: in lowest terms");
        // eight by 16 and one by 2 are one whole
        x.sheet(0, 8, 9);
        for (int i = 0; i < 9; i++) {
            x.put(0, i, i == 8 ? 2 : 16);
        }
        due(x.slate(0, 0), 1);
        due(x.slate(0, 1), 1);
        // eight by 99 and one by 1
        for (int i = 0; i < 9; i++) {
            x.put(0, i, i == 0 ? 1 : 99);
        }
        due(x.slate(0, 0), 107);
        due(x.slate(0, 1), 99);
    }

    private static void drawsBounds() {
        StandStill x = start("BY DRAWS: 1 .. 60; z an int, z >>> 8");
        due(x.count(7), 1);
        due(x.draws(1), 0);
        due(x.count(7), 1103527590);
        // the next z is below 0: >>> 8 is 9862832, by 9 the rest 2
        x = start("BY DRAWS: z below 0");
        x.seed(1103527590);
        due(x.draws(1), 0);
        due(x.count(7), -1770082073);
        due(x.standerIs(2, 3), 50);
        due(x.count(3), 530);
        due(x.draws(1), 0);
        due(x.count(7), 662824084);
        due(x.standerIs(0, 3), 50);
        x = start("BY DRAWS: 60 FLIES");
        for (int i = 0; i < 9; i++) {
            x.patience(i, 999);
        }
        due(x.draws(60), 0);
        due(x.count(3), 9 * 999 - 600);
        due(x.count(7), -2020009403);
        x = start("seed: any number");
        int was = 1;
        for (int v : new int[] {0, -1, LEAST, MOST, Due.BEYOND, 1}) {
            due(x.seed(v), was);
            due(x.count(7), v);
            was = v;
        }
    }

    // ---- terms 4, 5

    private static void voiceBounds() {
        StandStill x = start("VOICES 0 .. 3: ints that wrap");
        due(x.voice(8, 0, MOST), LEAST + 7);
        due(x.voice(0, 0, LEAST), LEAST);
        due(x.voice(0, 1, LEAST), 0);
        due(x.voice(0, 1, MOST), -2);
        x.stander(0, 9);
        due(x.voice(0, 2, 1 << 30), MOST - 8);
        x.stander(8, 18);
        due(x.voice(8, 0, LEAST), LEAST + 4);
        x.stander(8, 40);
        due(x.voice(8, 0, MOST), (LEAST + 7 - 4) * 3);
        x.stander(8, 50);
        due(x.voice(8, 1, MOST), 0 - (LEAST + 8) * 2);
        x.stander(0, 20);
        due(x.voice(0, 1, 1 << 30), LEAST);
        about = "VOICES: quotients are cut";
        x.stander(2, 5);
        due(x.voice(2, 3, -7), -2);
        due(x.voice(2, 3, 8), 2);
        due(x.voice(2, 3, -2), 0);
        x.stander(6, 5);
        due(x.voice(6, 3, -7), 7);
        due(x.voice(6, 3, LEAST), LEAST);
        x.stander(5, 36);
        due(x.voice(5, 2, -7), (-3 + 5) * 2 - 6);
        due(x.voice(5, 2, -1), 4);
        due(x.voice(5, 2, LEAST), LEAST + 10 - 6);
        about = "VOICES: PARTED at m the same as the number alone";
        for (int m = 0; m < 10; m++) {
            x.stander(4, m);
            due(x.voice(4, 3, 20), m == 4 ? Due.PARTED : 20 / (m - 4));
        }
    }

    private static void traceBounds() {
        StandStill x = start("THE TRACE: of the latest voice(), as they began");
        due(x.count(6), 0);
        due(x.body(0), N);
        x.stander(3, 45);
        x.voice(3, 2, 1);
        int[] sways = {51, 12, 11, 50, 20, 10};
        int[] parts = {21, 13, 11, 50, 20, 10};
        due(x.count(6), 6);
        for (int i = 0; i < 6; i++) {
            due(x.body(i), sways[i]);
        }
        due(x.body(6), N);
        due(x.body(-1), N);
        x.voice(3, 3, 1);
        for (int i = 0; i < 6; i++) {
            due(x.body(i), parts[i]);
        }
        due(x.body(6), N);
        x.stander(3, 63);
        x.voice(3, 0, 1);
        due(x.count(6), 1);
        due(x.body(0), 70);
        due(x.body(1), N);
        due(x.voice(3, 3, 1), Due.PARTED);
        due(x.voice(3, 4, 1), Due.BEYOND);
        due(x.voice(9, 3, 1), Due.BEYOND);
        due(x.body(0), 70);
        due(x.body(1), N);
    }

    private static void sheetBounds() {
        StandStill x = start("SHEETS 0 .. 3: missing at first");
        for (int sheet = 0; sheet < 4; sheet++) {
            due(x.put(sheet, 0, 1), N);
            due(x.flies(sheet), N);
            due(x.judge(sheet), N);
        }
        for (int sheet = 0; sheet < 4; sheet++) {
            for (int bits = 8; bits <= 32; bits *= 2) {
                about = "SHEET " + sheet + " of " + bits + " bits: 0 .. 24 numbers, all 0";
                due(x.sheet(sheet, bits, 24), 1);
                due(x.put(sheet, 23, 1), 1);
                due(x.put(sheet, 0, 1), 1);
                due(x.put(sheet, 24, 1), Due.BEYOND);
                due(x.sheet(sheet, bits, 0), 1);
                due(x.put(sheet, 0, 1), Due.BEYOND);
                due(x.flies(sheet), 0);
                due(x.judge(sheet), 0);
                due(x.sheet(sheet, bits, 1), 1);
                due(x.put(sheet, 0, 9), 1);
                due(x.judge(sheet), 1);
                due(x.put(sheet, 1, 9), Due.BEYOND);
            }
        }
        about = "a SHEET of 0 bits is missing, n doesn't matter";
        int[] any = {LEAST, -1, 25, MOST};
        for (int sheet = 0; sheet < 4; sheet++) {
            due(x.sheet(sheet, 0, any[sheet]), 1);
            due(x.put(sheet, 0, 1), N);
            due(x.sheet(sheet, 0, any[sheet]), 1);
        }
        due(x.told(3), 0);
    }

    private static void sheetAnew() {
        StandStill x = start("a SHEET made anew is all 0");
        for (int bits = 8; bits <= 32; bits *= 2) {
            x.sheet(0, bits, 24);
            for (int i = 0; i < 24; i++) {
                x.put(0, i, 9);
            }
            due(x.flies(0), 0);
            due(x.sheet(0, bits, 24), 1);
            x.image();
            due(x.flies(0), 24);
            due(x.standerIs(0, 4), 0);
            // 6 flies for 0, whose end shakes 1 alone
            due(x.standerIs(1, 3), 52);
            due(x.standerIs(2, 3), 60);
            x.restore();
        }
    }

    private static void putBounds() {
        int[][] beyond = {{8, 256}, {16, 65536}};
        for (int[] of : beyond) {
            StandStill x = start("put: the lowest " + of[0] + " bits");
            x.sheet(0, of[0], 2);
            for (int v : new int[] {of[1], -of[1], 7 * of[1], LEAST}) {
                due(x.put(0, 0, v + 3), 1);
                due(x.put(0, 1, v + 9), 1);
                due(x.flies(0), 1);
            }
            due(x.standerIs(3, 3), 20);
            x.put(0, 0, of[1] / 2 + 3);
            due(x.flies(0), 0);
            x.put(0, 0, of[1] - 1);
            due(x.flies(0), 0);
        }
        StandStill x = start("put: 32 bits are all");
        x.sheet(0, 32, 1);
        for (int v : new int[] {256, 65536, 1 << 31, LEAST, MOST, -1, 9}) {
            due(x.put(0, 0, v), 1);
            due(x.flies(0), 0);
        }
        x.put(0, 0, 8);
        due(x.flies(0), 1);
    }

    /** How often each POST stands in a SHEET of 24 POSTS, as its FLIES show. */
    private static void postsOf(StandStill x, int sheet, int... flies) {
        x.image();
        due(x.flies(sheet), 24);
        for (int i = 0; i < 9; i++) {
            due(x.standerIs(i, 3), 999 - 10 * flies[i]);
        }
        x.restore();
    }

    private static void moveBounds() {
        StandStill x = start("move: all, none, up to the ends");
        for (int i = 0; i < 9; i++) {
            x.patience(i, 999);
        }
        x.sheet(0, 8, 24);
        x.sheet(1, 8, 24);
        for (int i = 0; i < 24; i++) {
            x.put(0, i, i / 3);
        }
        due(x.move(0, 0, 1, 0, 24), 24);
        postsOf(x, 1, 3, 3, 3, 3, 3, 3, 3, 3, 0);
        due(x.move(0, 24, 1, 24, 0), 0);
        due(x.move(0, 0, 1, 0, 0), 0);
        postsOf(x, 1, 3, 3, 3, 3, 3, 3, 3, 3, 0);
        // the last three, 7, over the first three, 0
        due(x.move(0, 21, 1, 0, 3), 3);
        postsOf(x, 1, 0, 3, 3, 3, 3, 3, 3, 6, 0);
        due(x.move(0, 0, 1, 23, 1), 1);
        postsOf(x, 1, 1, 3, 3, 3, 3, 3, 3, 5, 0);
        about = "move within one SHEET: as they all were";
        due(x.move(0, 0, 0, 3, 21), 21);
        postsOf(x, 0, 6, 3, 3, 3, 3, 3, 3, 0, 0);
        due(x.move(0, 3, 0, 0, 21), 21);
        postsOf(x, 0, 3, 3, 3, 3, 3, 3, 6, 0, 0);
        due(x.move(0, 0, 0, 0, 24), 24);
        postsOf(x, 0, 3, 3, 3, 3, 3, 3, 6, 0, 0);
        about = "move: SHEETS of unlike sizes";
        x.sheet(2, 8, 2);
        due(x.move(0, 22, 2, 0, 2), 2);
        due(x.move(2, 0, 0, 0, 2), 2);
        postsOf(x, 0, 1, 3, 3, 3, 3, 3, 8, 0, 0);
        x.sheet(3, 8, 0);
        due(x.move(3, 0, 2, 2, 0), 0);
        due(x.move(2, 2, 3, 0, 0), 0);
    }

    private static void fliesBounds() {
        StandStill x = start("flies: up to the first that is none");
        x.sheet(0, 8, 24);
        for (int i = 0; i < 24; i++) {
            x.put(0, i, 8);
        }
        due(x.flies(0), 24);
        due(x.standerIs(8, 4), 0);
        due(x.standerIs(7, 3), 52);
        x.put(0, 23, 9);
        due(x.flies(0), 23);
        x.put(0, 1, -1);
        due(x.flies(0), 1);
        x.put(0, 0, 9);
        due(x.flies(0), 0);
        x.sheet(0, 8, 0);
        due(x.flies(0), 0);
        due(x.told(1), 0);
        about = "flies: one behind the other";
        x = new StandStill();
        x.sheet(0, 8, 3);
        x.put(0, 0, 1);
        x.put(0, 1, 0);
        x.put(0, 2, 1);
        x.patience(0, 9);
        x.patience(1, 18);
        // 1 goes to 8; 0 stirs, by which 1 stirs, too
        due(x.flies(0), 3);
        due(x.count(2), 7);
        due(x.standerIs(2, 3), 52);
    }

    private static void judgeBounds() {
        StandStill x = calm("judge: behind 0, 1, .. MINUTES", 999);
        x.sheet(0, 8, 24);
        for (int i = 0; i < 24; i++) {
            x.put(0, i, i < 23 ? 9 : 8);
        }
        due(x.judge(0), 23);
        x.patience(4, 23);
        due(x.judge(0), 24);
        x.patience(4, 22);
        due(x.judge(0), 22);
        x.put(0, 0, 8);
        due(x.judge(0), 0);
        x.put(0, 0, 9 + 256);
        due(x.judge(0), 22);
        x.sheet(0, 8, 0);
        due(x.judge(0), 0);
        x.sheet(0, 8, 1);
        due(x.judge(0), 0);
        pokeAll(x);
        due(x.judge(0), 1);
    }

    // ---- what is told

    private static void imageBounds() {
        StandStill x = start("image: in place of one ahead; restore: the IMAGE stays");
        due(x.restore(), N);
        for (int k = 1; k <= 5; k++) {
            x.minutes(1);
            due(x.image(), k);
        }
        x.minutes(3);
        due(x.restore(), 5);
        due(x.count(0), 5);
        due(x.restore(), 5);
        x.sun(9);
        due(x.image(), 6);
        x.sun(2);
        due(x.restore(), 5);
        due(x.count(1), 9);
        about = "image of a new object, restore of all";
        x = new StandStill();
        due(x.image(), 1);
        x.minutes(30);
        due(x.count(2), 0);
        Due.text(x, 0, "1");
        Due.text(x, 1, "1");
        x.feed('1', 1);
        x.tell(1);
        x.seed(5);
        x.sun(5);
        x.stander(0, 69);
        due(x.restore(), 0);
        due(x.count(2), 9);
        due(x.count(4), 0);
        due(x.count(5), 0);
        due(x.count(7), 1);
        due(x.count(1), 1);
        due(x.untell(0), 0);
        due(x.untell(1), 0);
        due(x.standerIs(0, 0), 0);
        due(x.standerIs(0, 1), 0);
    }

    /** All that an IMAGE keeps of each kind, full. */
    private static void imageOfAll() {
        StandStill x = start("image: the last of the nine, all 60 bytes, all steps of a TEXT, all that wait");
        x.stander(8, 67);
        x.swap(8, 0);
        x.patience(8, 777);
        due(Due.text(x, 0, "!1" + "+1".repeat(29)), 1);
        due(Due.text(x, 1, "1+".repeat(29) + "!0"), 1);
        Due.feed(x, "2+".repeat(29) + "31");
        for (int i = 0; i < 24; i++) {
            x.tell(x.then(200, Math.min(i, 8), 4));
        }
        due(x.image(), 1);
        x.stander(8, 0);
        x.swap(8, 4);
        x.patience(8, 5);
        due(x.text(0), 1);
        Due.text(x, 1, "m");
        Due.feed(x, "x".repeat(60));
        x.check();
        for (int i = 0; i < 24; i++) {
            x.tell(-5);
        }
        due(x.restore(), 0);
        due(x.standerIs(8, 0), 6);
        due(x.standerIs(8, 1), 7);
        due(x.standerIs(8, 2), 0);
        due(x.standerIs(8, 3), 777);
        due(x.standerIs(8, 5), 29);
        due(x.count(4), 60);
        due(x.count(5), 24);
        due(x.check(), 10);
        due(x.text(0), 1);
        due(x.standerIs(8, 5), 89);
        due(x.poke(4), 1);
        due(x.standerIs(8, 3), 747);
        due(x.restore(), 0);
        x.poke(8);
        due(x.image(), 2);
        due(x.again(8, 4), 1);
        due(x.restore(), 0);
        due(x.standerIs(8, 4), 0);
    }

    private static void imageLeavesOut() {
        StandStill x = start("image: all but SHEETS, THE TRACE, what told() tells, how often this was done");
        x.sheet(0, 8, 3);
        x.voice(0, 0, 1);
        x.told(0);
        due(x.image(), 1);
        x.sheet(0, 8, 2);
        x.put(0, 0, 8);
        x.sheet(1, 16, 1);
        x.voice(0, 1, 1);
        x.told(0);
        due(x.image(), 2);
        due(x.restore(), 0);
        due(x.count(6), 2);
        due(x.body(0), 11);
        due(x.told(1), 2);
        due(x.move(0, 0, 0, 0, 2), 2);
        due(x.move(0, 0, 0, 0, 3), Due.BEYOND);
        due(x.put(1, 0, 1), 1);
        x.fly(8);
        x.flies(0);
        due(x.standerIs(8, 3), 40);
        due(x.image(), 3);
    }

    private static void waitingBounds() {
        StandStill x = calm("tell: 24 wait; check: none do then", 999);
        due(x.check(), 0);
        for (int n = 1; n <= 24; n++) {
            due(x.tell(n <= 9 ? -1 : 0), n);
        }
        due(x.tell(-1), Due.FULL);
        due(x.count(5), 24);
        due(x.check(), 10);
        due(x.count(5), 0);
        due(x.tell(MOST), 1);
        due(x.check(), 1);
        due(x.count(5), 0);
        due(x.check(), 0);
        about = "check: 200 MINUTES AHEAD, the place of the first that isn't so, beyond the ninth, too";
        x.patience(8, 200);
        x.patience(7, 201);
        for (int n = 1; n <= 10; n++) {
            for (int i = 0; i < n; i++) {
                x.tell(i == 8 ? 200 : -1);
            }
            due(x.check(), n <= 9 ? 0 : 10);
        }
        for (int wrong = 0; wrong < 9; wrong++) {
            for (int i = 0; i < 9; i++) {
                x.tell((i == 8 ? 200 : -1) + (i >= wrong ? 1 : 0));
            }
            due(x.check(), 1 + wrong);
        }
        due(x.count(0), 0);
        due(x.count(2), 9);
        due(x.told(4), 1);
    }

    private static void countBounds() {
        StandStill x = start("count 0 .. 7");
        int[] first = {0, 1, 9, 540, 0, 0, 0, 1};
        for (int what = 0; what <= 7; what++) {
            due(x.count(what), first[what]);
        }
        for (int i = 0; i < 9; i++) {
            x.patience(i, 999);
        }
        due(x.count(3), 8991);
        pokeAll(x);
        due(x.count(3), 0);
        due(x.count(2), 0);
        Due.feed(x, "1".repeat(60));
        due(x.count(4), 60);
        for (int k = 0; k < 24; k++) {
            x.tell(k);
        }
        due(x.count(5), 24);
    }

    private static void toldBounds() {
        StandStill x = start("told 1 .. 6; another k is counted, too");
        for (int k = 1; k <= 6; k++) {
            due(x.told(k), 0);
        }
        due(x.told(0), Due.BEYOND);
        due(x.told(1), 1);
        due(x.told(7), Due.BEYOND);
        due(x.told(1), 2);
        due(x.told(LEAST), Due.BEYOND);
        due(x.told(MOST), Due.BEYOND);
        due(x.told(1), 4);
        due(x.told(1), 4);
        for (int k = 2; k <= 6; k++) {
            due(x.told(k), 0);
        }
        due(x.slate(0, 0), -1000000002L);
        due(x.slate(9, 0), -1000000001L);
        x.sheet(0, 32, 9);
        due(x.slate(0, 0), -1000000006L);
        due(x.told(1), 5);
        due(x.told(2), 1);
        due(x.told(6), 1);
    }

    /** The 512th call is answered as any other. */
    private static void lastCall() {
        StandStill x = start("at most 512 calls");
        x.sun(0);
        for (int call = 2; call <= 511; call++) {
            x.seed(call);
        }
        due(x.seed(0), 511);
    }

    private static void term1() {
        posts();
        kindsAndNumbers();
        patienceBounds();
        sunBounds();
        minuteBounds();
        spendsHeld();
        spendsToZero();
        bites();
        shaken();
        shakenByText();
        settling();
    }

    private static void term2() {
        tapeBounds();
        faults();
        comparedOnce();
        openAtOnce();
        wrapsAndCuts();
        truths();
        textStays();
    }

    private static void term3() {
        aheadBounds();
        lastsBounds();
        lastOneBounds();
        roundBounds();
        changeBounds();
        emptiesBounds();
        whoseBounds();
        slateBounds();
        drawsBounds();
    }

    private static void terms4And5() {
        voiceBounds();
        traceBounds();
        sheetBounds();
        sheetAnew();
        putBounds();
        moveBounds();
        fliesBounds();
        judgeBounds();
    }

    private static void whatIsTold() {
        imageBounds();
        imageOfAll();
        imageLeavesOut();
        waitingBounds();
        countBounds();
        toldBounds();
        lastCall();
    }

    public static void main(String[] args) {
        term1();
        term2();
        term3();
        terms4And5();
        whatIsTold();
        Due.end("EdgeRuns");
    }
}
