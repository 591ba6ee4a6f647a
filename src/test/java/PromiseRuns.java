/** For each promise answers worked out by hand from the document: ordinary ones, edges, wrong inputs. */
public final class PromiseRuns {
    private static final int B = Due.BEYOND;
    private static final int N = Due.NONE;
    private static final int S = Due.STATE;
    private static final int LEAST = Integer.MIN_VALUE;
    private static final int MOST = Integer.MAX_VALUE;

    private static String about = "";

    private static void due(long got, long want) {
        Due.due(about, got, want);
    }

    private static StandStill start(String what) {
        about = what;
        return new StandStill();
    }

    /** Nine of a KIND that never get tired: ASLEEP ones in no sun still spend 1, LEANING ones with m 9 nothing. */
    private static StandStill tireless(String what) {
        StandStill x = start(what);
        x.sun(0);
        for (int i = 0; i < 9; i++) {
            x.stander(i, 29);
        }
        return x;
    }

    private static void promise1() {
        StandStill x = start("promise 1");
        int[] counts = {0, 1, 9, 540, 0, 0, 0, 1};
        for (int what = 0; what < 8; what++) {
            due(x.count(what), counts[what]);
        }
        for (int i = 0; i < 9; i++) {
            int[] is = {0, 0, i, 60, -1, 2, 10};
            for (int what = 0; what < 7; what++) {
                due(x.standerIs(i, what), is[what]);
            }
        }
        for (int k = 1; k <= 6; k++) {
            due(x.told(k), 0);
        }
        due(x.untell(0), 0);
        due(x.untell(1), 0);
        for (int sheet = 0; sheet < 4; sheet++) {
            due(x.flies(sheet), N);
        }
        due(x.body(0), N);
        due(x.restore(), N);
        due(x.check(), 0);
    }

    private static void promise2() {
        StandStill x = start("promise 2");
        due(x.stander(0, 69), 0);
        due(x.stander(0, 47), 69);
        due(x.stander(0, 0), 47);
        due(x.stander(8, 8), 0);
        due(x.standerIs(8, 0), 0);
        due(x.standerIs(8, 1), 8);
        due(x.stander(8, 70), B);
        due(x.stander(8, -1), B);
        due(x.stander(-1, 0), B);
        due(x.stander(9, 0), B);
        due(x.stander(LEAST, MOST), B);
        due(x.standerIs(8, 1), 8);
        due(x.poke(8), 1);
        due(x.stander(8, 21), 8);
        due(x.standerIs(8, 3), 0);
        due(x.standerIs(8, 4), 0);
        due(x.standerIs(8, 2), 8);
    }

    private static void promise3() {
        StandStill x = start("promise 3");
        x.sun(4);
        for (int m = 0; m < 10; m++) {
            int[] spends = {5, 1, 5 - m / 2, 5, 1 + m % 3, 5 - m / 2, 5};
            int[] bites = {10, 0, 10, 10 + 3 * m, 2, 20, 10};
            for (int kind = 0; kind < 7; kind++) {
                x.stander(3, 10 * kind + m);
                due(x.standerIs(3, 0), kind);
                due(x.standerIs(3, 1), m);
                due(x.standerIs(3, 5), spends[kind]);
                due(x.standerIs(3, 6), bites[kind]);
            }
        }
        x.sun(0);
        due(x.stander(3, 29), 69);
        due(x.standerIs(3, 5), 0);
        x.stander(3, 59);
        due(x.standerIs(3, 5), 0);
        due(x.standerIs(3, 7), B);
        due(x.standerIs(3, -1), B);
        due(x.standerIs(9, 0), B);
        due(x.standerIs(-1, 0), B);
        due(x.standerIs(MOST, LEAST), B);
    }

    private static void spendingTexts() {
        StandStill x = start("term 2, SPENDS");
        x.stander(3, 69);
        x.sun(4);
        due(Due.text(x, 0, "s*p+m"), 1);
        due(x.standerIs(3, 5), 99);
        due(Due.text(x, 0, "p%s+m*2"), 1);
        due(x.standerIs(3, 5), 18);
        due(Due.text(x, 0, "1-m"), 1);
        due(x.standerIs(3, 5), 0);
        due(Due.text(x, 0, "9-3-2"), 1);
        due(x.standerIs(3, 5), 4);
        due(Due.text(x, 0, "60/7/2*5%3"), 1);
        due(x.standerIs(3, 5), 2);
        due(Due.text(x, 0, "7/0+7%0+(1<2)+(2=2)*2+(2>3)*4"), 1);
        due(x.standerIs(3, 5), 3);
        due(Due.text(x, 0, "(5&3)+(5|0)+!5+!!5"), 1);
        due(x.standerIs(3, 5), 3);
        due(Due.text(x, 0, "0|1&0"), 1);
        due(x.standerIs(3, 5), 0);
        due(Due.text(x, 0, "(3<2)+(2<2)*2+(2<3)*4"), 1);
        due(x.standerIs(3, 5), 4);
        due(Due.text(x, 0, "(3>2)+(2>2)*2+(2>3)*4"), 1);
        due(x.standerIs(3, 5), 1);
        due(Due.text(x, 0, "(0&1)+(1&0)*2+(2&1)*4+(0&0)*8"), 1);
        due(x.standerIs(3, 5), 4);
        due(Due.text(x, 0, "(0|1)+(7|0)*2+(2|2)*4+(0|0)*8"), 1);
        due(x.standerIs(3, 5), 7);
        due(Due.text(x, 0, "(0=1)+(7=7)*2"), 1);
        due(x.standerIs(3, 5), 2);
        due(Due.text(x, 0, "!(2-3)+!0*4"), 1);
        due(x.standerIs(3, 5), 4);
        due(Due.text(x, 0, "9+(0-7)/2+(0-7)%4"), 1);
        due(x.standerIs(3, 5), 3);
        due(Due.text(x, 0, "1+1<3*1"), 1);
        due(x.standerIs(3, 5), 1);
        due(Due.text(x, 0, "9999*9999*9999>0"), 1);
        due(x.standerIs(3, 5), 0);
        due(x.standerIs(2, 5), 5);
        // the text knows the patience of each minute: 60, 30, 15, 8 (7 gone), 4, 2, 1, 1, ..
        due(x.stander(3, 60), 69);
        due(Due.text(x, 0, "p/2"), 1);
        due(x.then(4, 3, 3), 4);
        due(x.then(6, 3, 3), 1);
        due(x.then(7, 3, 3), 1);
    }

    private static void shockTexts() {
        StandStill x = start("term 2, SHOCK");
        x.stander(1, 5);
        due(Due.text(x, 1, "d*2+m"), 1);
        due(x.poke(0), 1);
        due(x.standerIs(1, 3), 53);
        due(x.standerIs(2, 3), 56);
        due(x.standerIs(8, 3), 44);
        due(Due.text(x, 1, "p/2+1000*(d=5)"), 1);
        due(x.patience(3, 200), 54);
        due(x.poke(8), 1);
        due(x.standerIs(3, 3), 101);
        due(x.standerIs(1, 3), 27);
        due(Due.text(x, 1, "0-5"), 1);
        due(x.poke(7), 1);
        due(x.standerIs(6, 3), 24);
        due(x.untell(1), 1);
        due(x.poke(6), 1);
        due(x.standerIs(5, 3), 17);
        due(x.standerIs(4, 3), 26);
    }

    private static void promise4() {
        String[] under = {"0", "01", "02", "03", "014", "025", "06"};
        StandStill x = start("promise 4");
        for (int kind = 0; kind < 7; kind++) {
            x.stander(5, 10 * kind + kind + 2);
            for (int asOne = 0; asOne < 7; asOne++) {
                due(x.as(5, asOne), under[kind].indexOf('0' + asOne) >= 0 ? kind + 2 : Due.KIND);
            }
        }
        due(x.as(5, 7), B);
        due(x.as(5, -1), B);
        due(x.as(9, 0), B);
        due(x.as(-1, 0), B);
    }

    private static void promise5() {
        StandStill x = start("promise 5");
        due(x.patience(2, 999), 60);
        due(x.patience(2, 1), 999);
        due(x.patience(2, 1000), B);
        due(x.patience(2, -1), B);
        due(x.patience(9, 5), B);
        due(x.patience(-1, 5), B);
        due(x.standerIs(2, 3), 1);
        due(x.patience(3, 0), 60);
        due(x.standerIs(3, 4), 0);
        due(x.standerIs(2, 4), 0);
        due(x.standerIs(4, 3), 52);
        due(x.standerIs(1, 3), 52);
        due(x.patience(2, 7), S);
        due(x.patience(2, 1000), B);
        due(x.told(3), 1);
    }

    private static void promise6() {
        StandStill x = start("promise 6");
        due(x.swap(0, 8), 8);
        due(x.swap(8, 3), 3);
        due(x.at(0), 3);
        due(x.at(3), 8);
        due(x.swap(4, 4), 4);
        due(x.swap(-1, 4), B);
        due(x.swap(4, 9), B);
        due(x.poke(8), 1);
        due(x.standerIs(2, 3), 52);
        due(x.standerIs(4, 3), 52);
        due(x.standerIs(7, 3), 60);
        due(x.swap(8, 1), S);
        due(x.swap(1, 8), S);
        due(x.swap(8, 8), S);
        due(x.swap(8, 9), B);
        due(x.at(3), 8);
    }

    private static void promise7() {
        StandStill x = start("promise 7");
        due(x.again(0, 5), S);
        due(x.again(0, 0), B);
        x.minutes(3);
        x.poke(0);
        due(x.standerIs(0, 4), 3);
        due(x.again(0, 0), B);
        due(x.again(0, 1000), B);
        due(x.again(9, 5), B);
        due(x.again(-1, 5), B);
        due(x.again(0, 999), 1);
        due(x.standerIs(0, 4), -1);
        due(x.standerIs(0, 3), 999);
        due(x.count(2), 9);
        due(x.poke(0), 1);
        due(x.again(0, 1), 1);
        due(x.minutes(1), 1);
        due(x.standerIs(0, 4), 4);
    }

    private static void promise8() {
        StandStill x = start("promise 8");
        due(x.sun(9), 1);
        due(x.sun(0), 9);
        due(x.sun(-1), B);
        due(x.sun(10), B);
        due(x.count(1), 0);
        due(x.standerIs(0, 5), 1);
        due(x.sun(3), 0);
        due(x.standerIs(0, 5), 4);
    }

    private static void promise9() {
        StandStill x = start("promise 9");
        for (int post = 0; post < 9; post++) {
            due(x.at(post), post);
        }
        due(x.at(-1), B);
        due(x.at(9), B);
        x.swap(1, 2);
        x.poke(1);
        due(x.at(2), 1);
        due(x.at(1), 2);
    }

    private static void promise10() {
        StandStill x = start("promise 10");
        due(x.feed(-1L, 0), B);
        due(x.feed(-1L, 9), B);
        due(x.feed(0x7777_7777_7777_7733L, 1), 1);
        due(x.feed(0x2B_2B33L, 3), 4);
        // 33++
        due(x.text(0), -13);
        due(x.feed(0x7777_3132_2B33L, 4), 4);
        x.stander(0, 60);
        due(x.text(0), 1);
        due(x.standerIs(0, 5), 24);
        for (int n = 8; n <= 56; n += 8) {
            due(x.feed(0L, 8), n);
        }
        due(x.feed(0L, 5), Due.FULL);
        due(x.feed(0L, 9), B);
        due(x.feed(0L, 3), 59);
        due(x.feed(0L, 2), Due.FULL);
        due(x.count(4), 59);
        due(x.feed(0L, 1), 60);
        due(x.feed(0L, 1), Due.FULL);
        due(x.told(4), 3);
    }

    /** text(0) of a tape that is none, and the TEXT ahead stays. */
    private static void faultOf(StandStill x, int place, String tape) {
        Due.due(about + " of " + tape, Due.text(x, 0, tape), -10 - place);
        due(x.count(4), 0);
        due(x.standerIs(0, 5), 77);
    }

    private static void promise11() {
        StandStill x = start("promise 11");
        x.stander(0, 60);
        Due.feed(x, "77");
        due(x.text(2), B);
        due(x.text(-1), B);
        due(x.count(4), 2);
        due(x.text(0), 1);
        due(x.count(4), 0);
        faultOf(x, 0, "");
        faultOf(x, 0, "d");
        faultOf(x, 0, "x+1");
        faultOf(x, 0, "-1");
        faultOf(x, 2, "1+");
        faultOf(x, 1, "1 +1");
        faultOf(x, 4, "12345");
        faultOf(x, 1, "1p");
        faultOf(x, 1, "pm");
        faultOf(x, 3, "1<2<3");
        faultOf(x, 3, "1=2>3");
        faultOf(x, 1, "(");
        faultOf(x, 1, "()");
        faultOf(x, 2, "(1");
        faultOf(x, 1, "1)");
        faultOf(x, 3, "(1))");
        faultOf(x, 5, "((((((1))))))");
        faultOf(x, 5, "!!!!!!1");
        faultOf(x, 5, "!(!(!!1");
        faultOf(x, 2, "1+\u00ff");
        faultOf(x, 1, "1\u00e9");
        faultOf(x, 1, "p\u0000");
        faultOf(x, 6, "1&2|1&&");
        for (String fine : new String[] {"(((((1)))))", "!!!!!1", "!(!(!1))+!!!!!p", "0001", "1<2&2<3|s>m"}) {
            Due.due(about + " of " + fine, Due.text(x, 0, fine), 1);
        }
        due(Due.text(x, 1, "d+m+p"), 1);
        due(Due.text(x, 1, "s"), -10);
        String full = "1+".repeat(29) + "11";
        due(Due.text(x, 0, full), 1);
        due(x.standerIs(0, 5), 40);
        due(x.told(1), 2);
    }

    private static void promise12() {
        StandStill x = start("promise 12");
        x.stander(0, 60);
        due(x.untell(0), 0);
        due(Due.text(x, 0, "7"), 1);
        due(Due.text(x, 1, "7"), 1);
        due(x.untell(-1), B);
        due(x.untell(2), B);
        due(x.standerIs(0, 5), 7);
        due(x.untell(0), 1);
        due(x.untell(0), 0);
        due(x.standerIs(0, 5), 2);
        due(x.untell(1), 1);
        due(x.poke(0), 1);
        due(x.standerIs(1, 3), 52);
        due(x.standerIs(2, 3), 60);
    }

    private static void promise13() {
        StandStill x = start("promise 13");
        due(x.minutes(0), B);
        due(x.minutes(201), B);
        due(x.minutes(-1), B);
        x.patience(4, 10);
        due(x.minutes(4), 0);
        due(x.standerIs(4, 3), 2);
        due(x.minutes(1), 1);
        due(x.standerIs(4, 4), 5);
        due(x.standerIs(3, 3), 42);
        due(x.standerIs(2, 3), 50);
        // 42 at 3 and 5 last 21 minutes more; what they shake (50 - 42 = 8, the same minute) falls with them
        due(x.minutes(200), 8);
        due(x.standerIs(3, 4), 26);
        due(x.standerIs(0, 4), 26);
        due(x.count(0), 205);

        x = tireless("promise 13, the last minute");
        for (int k = 0; k < 49; k++) {
            x.minutes(200);
        }
        due(x.minutes(200), S);
        due(x.count(0), 9800);
        due(x.minutes(201), B);
        due(x.minutes(199), 0);
        due(x.count(0), 9999);
        due(x.minutes(1), S);
        due(x.poke(0), 1);
        due(x.standerIs(0, 4), 9999);
        x.sun(9);
        x.stander(1, 0);
        due(x.then(6, 1, 4), 10005);
        due(x.lasts(1), 6);
        due(x.count(0), 9999);
    }

    private static void promise14() {
        StandStill x = start("promise 14");
        due(x.fly(-1), B);
        due(x.fly(9), B);
        due(x.fly(4), 0);
        due(x.standerIs(4, 3), 50);
        x.swap(4, 0);
        due(x.fly(4), 0);
        due(x.standerIs(0, 3), 50);
        x.patience(4, 10);
        due(x.standerIs(4, 2), 0);
        due(x.fly(0), 1);
        due(x.fly(0), 0);
        due(x.standerIs(4, 4), 0);
        due(x.standerIs(1, 3), 52);
        x.patience(1, 3);
        x.patience(2, 9);
        due(x.fly(1), 1);
        due(x.standerIs(2, 3), 1);
        due(x.fly(2), 1);
        x.stander(7, 10);
        x.patience(7, 1);
        due(x.fly(7), 0);
        due(x.standerIs(7, 3), 1);
    }

    private static void promise15() {
        StandStill x = start("promise 15");
        due(x.poke(-1), B);
        due(x.poke(9), B);
        due(x.poke(4), 1);
        due(x.poke(4), S);
        x.patience(2, 8);
        x.patience(1, 16);
        due(x.poke(3), 2);
        due(x.standerIs(1, 3), 8);
        due(x.standerIs(0, 3), 60);
        // 0 goes first, then the least who is at 0; 1 is shaken by it alone
        due(x.poke(0), 2);
        due(x.count(2), 4);
        due(x.told(3), 1);
    }

    /** Who stirs first matters where a TEXT looks at PATIENCE. */
    private static void settlingOrder() {
        StandStill x = start("term 1, TO SETTLE");
        due(Due.text(x, 1, "5*(d=8)+(p=7)*(d=1)*90+(p=12)*(d=7)*90+(d=6)*5"), 1);
        // 8 stirs: 0 (12 away 8) is at 7, 2 (5, away 6) at 0; 2 stirs: 0 is shaken by nothing but d 2: 0
        x.patience(0, 12);
        x.patience(2, 5);
        due(x.poke(8), 2);
        due(x.standerIs(0, 3), 7);
        x = start("term 1, the least first");
        due(Due.text(x, 1, "(d=1)*p/2+(d=2)*3"), 1);
        x.patience(1, 3);
        x.patience(3, 3);
        x.patience(5, 3);
        x.patience(2, 20);
        // poked: 3; 1 and 5 fall by it. First 1 stirs, so 2 goes 20, 10, 5; then 5 takes 3 from 2? no: d is 3
        due(x.poke(3), 3);
        due(x.standerIs(2, 3), 5);
        due(x.standerIs(4, 3), 15);
        due(x.standerIs(0, 3), 30);
        due(x.standerIs(7, 3), 57);
    }

    private static void promise16() {
        StandStill x = start("promise 16");
        due(x.draws(0), B);
        due(x.draws(61), B);
        due(x.count(7), 1);
        // z: 1103527590, >>> 8 is 4310654, by 9 the rest 5
        due(x.draws(1), 0);
        due(x.count(7), 1103527590);
        due(x.standerIs(5, 3), 50);
        due(x.count(3), 530);
        // a z below 0: -1 * 1103515245 + 12345 = -1103502900, >>> 8 is 12466657, by 9 the rest 1
        x.seed(-1);
        due(x.draws(1), 0);
        due(x.count(7), -1103502900);
        due(x.standerIs(1, 3), 50);
        x = start("promise 16, stirs");
        for (int i = 0; i < 9; i++) {
            x.patience(i, 10);
        }
        x.seed(1);
        due(x.draws(1), 1);
        due(x.standerIs(5, 4), 0);
        due(x.standerIs(4, 3), 2);
        // each stir leaves 2 at its sides, so that the 60 flies find all of them
        due(x.draws(60), 8);
    }

    private static void promise17() {
        StandStill x = start("promise 17");
        due(x.seed(LEAST), 1);
        due(x.seed(Due.BEYOND), LEAST);
        due(x.seed(0), Due.BEYOND);
        due(x.told(1), 0);
        due(x.count(7), 0);
    }

    private static void promise18() {
        StandStill x = start("promise 18");
        x.swap(2, 5);
        due(x.then(0, 2, 2), 5);
        due(x.then(7, 2, 2), 5);
        due(x.then(0, 2, 3), 60);
        due(x.then(7, 2, 3), 46);
        due(x.then(29, 2, 4), -1);
        due(x.then(30, 2, 4), 30);
        due(x.then(200, 2, 4), 30);
        due(x.then(200, 2, 3), 0);
        due(x.then(201, 2, 3), B);
        due(x.then(-1, 2, 3), B);
        due(x.then(1, 9, 3), B);
        due(x.then(1, -1, 3), B);
        due(x.then(1, 2, 1), B);
        due(x.then(1, 2, 5), B);
        due(x.count(0), 0);
        due(x.standerIs(2, 3), 60);
    }

    private static void promise19() {
        StandStill x = start("promise 19");
        x.patience(0, 20);
        due(x.standing(0), 9);
        due(x.standing(9), 9);
        due(x.standing(10), 8);
        due(x.standing(25), 8);
        // 1 has 52 then and falls at 26; shaken by it 2 has 8 less, and as 60 - 52 = 8, falls with it, and so on
        due(x.standing(26), 0);
        due(x.standing(200), 0);
        due(x.standing(201), B);
        due(x.standing(-1), B);
        due(x.count(2), 9);
    }

    private static void promise20() {
        StandStill x = start("promise 20");
        due(x.lasts(9), B);
        due(x.lasts(-1), B);
        x.minutes(7);
        due(x.lasts(3), 23);
        x.stander(3, 19);
        x.patience(3, 216);
        due(x.lasts(3), 200);
        x.patience(3, 217);
        due(x.lasts(3), N);
        x.poke(3);
        due(x.lasts(3), S);
        due(x.told(2), 1);
    }

    private static void promise21() {
        StandStill x = start("promise 21");
        x.stander(6, 10);
        x.stander(4, 10);
        due(x.lastOne(), 4);
        x.patience(4, 59);
        due(x.lastOne(), 6);
        x.minutes(2);
        due(x.lastOne(), 6);
        x.stander(4, 29);
        x.sun(0);
        due(x.lastOne(), 4);
        x.stander(1, 29);
        due(x.lastOne(), 1);
        x.poke(1);
        due(x.lastOne(), 4);
        x.stander(0, 29);
        due(x.lastOne(), 0);
        for (int i = 0; i < 9; i++) {
            x.poke(i);
        }
        due(x.lastOne(), N);
        x.again(0, 1);
        due(x.lastOne(), 0);
    }

    private static void promise22() {
        StandStill x = start("promise 22");
        due(x.round(-1, 1, 0), B);
        due(x.round(9, 1, 0), B);
        due(x.round(0, 0, 0), B);
        due(x.round(0, 4, 0), B);
        due(x.round(0, 1, 2), B);
        due(x.round(0, 1, -1), B);
        due(x.round(4, 3, 0), N);
        x.patience(4, 10);
        due(x.round(4, 1, 0), 0);
        due(x.round(4, 1, 1), 5);
        due(x.round(4, 2, 1), 15);
        due(x.round(4, 3, 1), 115);
        x.patience(4, 30);
        due(x.round(4, 2, 0), N);
        due(x.round(4, 3, 1), 555);
        x.patience(4, 18);
        due(x.round(4, 2, 1), 55);
        // 3 would fall by a fly and take 8, the next fly 10: 45 is a row less than 55, but costs another one
        x.patience(3, 10);
        due(x.round(4, 2, 0), 0);
        due(x.round(4, 2, 1), 55);
        due(x.round(4, 3, 1), 155);
        // 3 falls with 4 whatever comes, so the least row is one of those that cost it
        x.patience(3, 8);
        due(x.round(4, 2, 0), 1);
        due(x.round(4, 2, 1), 45);
        // no fly bites one who is ASLEEP: 4 falls by both its neighbours alone
        x.stander(4, 10);
        x.patience(4, 16);
        x.patience(3, 10);
        x.patience(5, 10);
        due(x.round(4, 1, 0), N);
        due(x.round(4, 2, 0), 2);
        due(x.round(4, 2, 1), 46);
        due(x.round(4, 3, 1), 146);
        due(x.count(3), 6 * 60 + 36);
        x.poke(4);
        due(x.round(4, 1, 0), S);
        due(x.round(4, 4, 0), B);
    }

    /** By a TEXT that looks at PATIENCE only one order of FLIES does it, with the greatest POST ahead. */
    private static void roundsInOrder() {
        StandStill x = start("promise 22, two in order");
        x.stander(3, 10);
        x.patience(3, 30);
        x.patience(8, 10);
        x.patience(4, 10);
        x.patience(0, 10);
        due(Due.text(x, 1, "(p=30)*(d=5)*20+(p=10)*(d=3)*10"), 1);
        due(x.round(3, 1, 0), N);
        due(x.round(3, 2, 0), 2);
        due(x.round(3, 2, 1), 91);
        due(x.round(3, 3, 1), 291);
        about = "promise 22, three in order";
        due(Due.text(x, 1, "(p=30)*(d=5)*20+(p=10)*(d=1)*5+(p=5)*(d=3)*5"), 1);
        due(x.round(3, 2, 0), N);
        due(x.round(3, 3, 0), 3);
        due(x.round(3, 3, 1), 951);
        due(Due.text(x, 1, "(p=30)*(d=5)*20+(p=10)*(d=3)*5+(p=5)*(d=1)*5"), 1);
        due(x.round(3, 3, 1), 915);
        due(x.count(2), 9);
    }

    private static void promise23() {
        StandStill x = start("promise 23");
        due(x.change(9, 0), B);
        due(x.change(-1, 0), B);
        due(x.change(0, 2), B);
        due(x.change(0, -1), B);
        x.patience(3, 10);
        // 4 has 52 once 3 is gone; away from it 60, but 2 and 5, ..: all beside one who falls at 26 fall, too
        due(x.change(4, 0), 0);
        due(x.change(4, 1), 26);
        due(x.at(4), 4);
        x = start("promise 23, never");
        x.sun(0);
        x.stander(5, 29);
        x.patience(3, 10);
        x.patience(5, 25);
        due(x.change(5, 1), 201);
        due(x.change(5, 0), 0);
        x.patience(5, 9);
        // at an end there is one neighbour alone, by whom 1 is left; 8 is at the other end
        due(x.change(5, 0), 0);
        due(x.change(5, 1), 201);
        x.poke(0);
        due(x.change(5, 0), 1);
        due(x.change(0, 0), S);
        due(x.change(0, 3), B);
        due(x.standerIs(5, 2), 5);
    }

    private static void promise24() {
        StandStill x = start("promise 24");
        due(x.empties(-1), B);
        due(x.empties(2), B);
        due(x.empties(1), 511);
        for (int i = 0; i < 9; i++) {
            x.patience(i, 8);
        }
        due(x.empties(0), 1);
        due(x.empties(1), 1);
        // whoever is poked, all up to 4 go, but 4 is left with 8; if 4 itself is poked, all go
        x.patience(4, 16);
        due(x.empties(0), 1);
        due(x.empties(1), 16);
        // 4 moves 2 to 8 alone; 0 leaves 1 to 1, whom 2 takes then
        x.patience(0, 9);
        x.patience(1, 9);
        due(x.empties(0), 2);
        due(x.empties(1), 17);
        // 0, 1, 4 would leave 1 to 2; 0, 2, 4 leave nobody
        x.patience(2, 17);
        due(x.empties(0), 3);
        due(x.empties(1), 21);
        due(x.count(2), 9);
        for (int i = 0; i < 9; i++) {
            x.poke(i);
        }
        due(x.empties(0), 0);
        due(x.empties(1), 0);
    }

    private static void promise25() {
        StandStill x = start("promise 25");
        due(x.whose(-1), B);
        due(x.whose(512), B);
        due(x.whose(256), 256);
        due(x.whose(1), 1);
        due(x.whose(511), 0);
        x.patience(3, 8);
        due(x.whose(12), 4);
        due(x.whose(24), 16);
        due(x.whose(8), 8);
        due(x.whose(4), 0);
        x.patience(4, 8);
        due(x.whose(24), 24);
        due(x.whose(28), 4);
        due(x.whose(0), 0);
        due(x.count(2), 9);
        x.poke(3);
        due(x.whose(24), 0);
        due(x.whose(4), 4);
        x = start("promise 25, the whole side");
        for (int i = 0; i < 9; i++) {
            x.patience(i, 8);
        }
        due(x.whose(511), 511);
    }

    private static void putAll(StandStill x, int sheet, int... numbers) {
        for (int i = 0; i < numbers.length; i++) {
            x.put(sheet, i, numbers[i]);
        }
    }

    private static void promise26() {
        StandStill x = start("promise 26");
        due(x.slate(-1, 0), B);
        due(x.slate(4, 0), B);
        due(x.slate(0, 2), B);
        due(x.slate(0, -1), B);
        due(x.slate(0, 0), N);
        x.sheet(0, 16, 8);
        due(x.slate(0, 0), N);
        x.sheet(0, 16, 9);
        due(x.slate(0, 0), Due.PARTED);
        putAll(x, 0, 1, 1, 1, 1, 1, 1, 1, 1, 1);
        due(x.slate(0, 0), 9);
        due(x.slate(0, 1), 1);
        putAll(x, 0, 18, 18, 18, 18, 18, 18, 18, 18, 18);
        due(x.slate(0, 0), 1);
        due(x.slate(0, 1), 2);
        // lcm of 1 .. 9 is 2520; 2520 + 1260 + 840 + 630 + 504 + 420 + 360 + 315 + 280 = 7129
        putAll(x, 0, 1, 2, 3, 4, 5, 6, 7, 8, 9);
        due(x.slate(0, 0), 7129);
        due(x.slate(0, 1), 2520);
        putAll(x, 0, 99, 98, 97, 95, 89, 83, 79, 73, 71);
        due(x.slate(0, 1), 99L * 98 * 97 * 95 * 89 * 83 * 79 * 73 * 71);
        x.put(0, 8, 100);
        due(x.slate(0, 0), Due.PARTED);
        x.put(0, 8, 0);
        due(x.slate(0, 1), Due.PARTED);
        x.put(0, 8, -1);
        due(x.slate(0, 1), Due.PARTED);
        x.sheet(1, 32, 10);
        putAll(x, 1, 2, 2, 2, 2, 2, 2, 2, 2, 2, 1000);
        due(x.slate(1, 0), 9);
        due(x.slate(1, 1), 2);
        due(x.told(6), 4);
    }

    /** One of a KIND with m 5 speaks as number 2: the answer, and the BODIES as they began. */
    private static void speaks(int kind, int voice, int x, int answer, int... bodies) {
        StandStill o = start("promise 27, kind " + kind + ", voice " + voice);
        o.stander(2, 10 * kind + 5);
        due(o.voice(2, voice, x), answer);
        due(o.count(6), bodies.length);
        for (int i = 0; i < bodies.length; i++) {
            due(o.body(i), bodies[i]);
        }
        due(o.body(bodies.length), N);
    }

    private static void promise27() {
        speaks(0, 0, 7, 9, 10);
        speaks(0, 1, 7, 18, 11, 10);
        speaks(0, 2, 7, 13, 12, 11, 10);
        speaks(0, 3, -7, -2, 13);
        speaks(1, 0, 7, 5, 20, 10);
        speaks(1, 1, 7, 10, 11, 20, 10);
        speaks(1, 2, 7, 5, 12, 11, 20, 10);
        speaks(1, 3, 7, 0, 21, 13, 11, 20, 10);
        speaks(2, 0, 7, 9, 10);
        speaks(2, 1, 7, -18, 30, 11, 10);
        speaks(2, 2, 7, -23, 12, 30, 11, 10);
        speaks(2, 3, 7, 2, 13);
        speaks(3, 1, 7, 18, 11, 10);
        speaks(3, 2, -7, -7, 40, 12, 11, 10);
        speaks(4, 0, 7, 15, 50, 20, 10);
        speaks(4, 1, 7, 30, 11, 50, 20, 10);
        speaks(4, 2, 7, 27, 51, 12, 11, 50, 20, 10);
        speaks(4, 3, 7, -4, 21, 13, 11, 50, 20, 10);
        speaks(5, 0, 7, 9, 10);
        speaks(5, 1, 7, -20, 60, 30, 11, 10);
        speaks(5, 2, 7, -25, 12, 60, 30, 11, 10);
        speaks(6, 0, 7, 9, 70);
        speaks(6, 1, 7, 23, 71, 11, 70);
        speaks(6, 2, 7, 18, 12, 71, 11, 70);
        speaks(6, 3, MOST, 715827882, 13);
        speaks(0, 0, MOST, LEAST + 1, 10);
        speaks(0, 1, 1 << 30, LEAST + 4, 11, 10);
        StandStill x = start("promise 27, wrong inputs");
        due(x.voice(9, 0, 0), B);
        due(x.voice(-1, 0, 0), B);
        due(x.voice(0, 4, 0), B);
        due(x.voice(0, -1, 0), B);
        due(x.voice(0, 3, 5), Due.PARTED);
        x.stander(4, 13);
        due(x.voice(4, 3, LEAST), LEAST + 2);
        x.stander(4, 3);
        due(x.voice(4, 3, LEAST), LEAST);
        due(x.told(6), 1);
    }

    private static void promise28() {
        StandStill x = start("promise 28");
        due(x.body(0), N);
        x.stander(3, 33);
        due(x.voice(3, 2, 8), 11);
        due(x.body(0), 40);
        due(x.body(3), 10);
        due(x.body(4), N);
        due(x.body(-1), N);
        due(x.body(LEAST), N);
        // what answers an ERROR changes nothing, THE TRACE neither
        due(x.voice(3, 3, 8), Due.PARTED);
        due(x.voice(3, 9, 8), B);
        due(x.count(6), 4);
        due(x.body(0), 40);
        due(x.voice(3, 0, 8), 11);
        due(x.count(6), 1);
        due(x.body(0), 10);
        due(x.body(1), N);
        due(x.told(2), 5);
    }

    private static void promise29() {
        StandStill x = start("promise 29");
        due(x.sheet(-1, 8, 3), B);
        due(x.sheet(4, 8, 3), B);
        due(x.sheet(0, 9, 3), B);
        due(x.sheet(0, 64, 3), B);
        due(x.sheet(0, -8, 3), B);
        due(x.sheet(0, 8, -1), S);
        due(x.sheet(0, 9, -1), B);
        due(x.sheet(4, 8, -1), B);
        due(x.sheet(0, 8, 25), B);
        due(x.flies(0), N);
        due(x.sheet(0, 8, 24), 1);
        due(x.flies(0), 24);
        x.put(0, 23, 9);
        due(x.flies(0), 23);
        due(x.sheet(0, 16, 24), 1);
        due(x.flies(0), 24);
        x.put(0, 0, 9);
        due(x.flies(0), 0);
        due(x.sheet(0, 16, 24), 1);
        due(x.flies(0), 24);
        due(x.sheet(0, 32, 0), 1);
        due(x.flies(0), 0);
        due(x.put(0, 0, 1), B);
        due(x.sheet(0, 8, MOST), B);
        due(x.flies(0), 0);
        due(x.sheet(0, 0, LEAST), 1);
        due(x.flies(0), N);
        due(x.sheet(3, 0, 99), 1);
        due(x.flies(3), N);
    }

    private static void promise30() {
        StandStill x = start("promise 30");
        due(x.put(-1, 0, 0), B);
        due(x.put(4, 0, 0), B);
        due(x.put(0, -1, 0), N);
        x.sheet(0, 8, 2);
        x.sheet(1, 16, 2);
        x.sheet(2, 32, 2);
        due(x.put(0, 2, 0), B);
        due(x.put(0, -1, 0), B);
        for (int sheet = 0; sheet < 3; sheet++) {
            x.put(sheet, 0, 4);
            due(x.put(sheet, 1, 256 + 5), 1);
        }
        // 261 is a POST (5) in 8 bits alone
        due(x.flies(0), 2);
        due(x.flies(1), 1);
        due(x.flies(2), 1);
        x.put(1, 1, 65536 + 5);
        x.put(2, 1, 65536 + 5);
        due(x.flies(1), 2);
        due(x.flies(2), 1);
        x.put(0, 1, -1);
        due(x.flies(0), 1);
    }

    private static void promise31() {
        StandStill x = start("promise 31");
        due(x.move(-1, 0, 0, 0, 0), B);
        due(x.move(0, 0, 4, 0, 0), B);
        due(x.move(0, 0, 1, 0, 0), N);
        x.sheet(0, 8, 5);
        due(x.move(0, 0, 1, 0, 0), N);
        due(x.move(1, 0, 0, 0, 0), N);
        x.sheet(1, 16, 9);
        due(x.move(0, 0, 1, 0, -1), Due.KIND);
        x.sheet(1, 8, 9);
        putAll(x, 0, 1, 2, 3, 4, 5);
        due(x.move(0, 0, 1, 5, 5), B);
        due(x.move(0, 1, 1, 0, 5), B);
        due(x.move(0, -1, 1, 0, 1), B);
        due(x.move(0, 0, 1, -1, 1), B);
        due(x.move(0, 0, 1, 0, -1), B);
        due(x.move(0, MOST, 1, 0, MOST), B);
        due(x.move(0, 0, 1, MOST, 1), B);
        due(x.move(0, 6, 1, 0, 0), B);
        due(x.move(0, 5, 1, 9, 0), 0);
        due(x.move(0, 0, 0, 1, 4), 4);
        // 1 1 2 3 4: posts 1, 1, 2, 3, 4 are bitten
        due(x.flies(0), 5);
        int[] left = {60, 40, 50, 50, 50, 60};
        for (int i = 0; i < left.length; i++) {
            due(x.standerIs(i, 3), left[i]);
        }
        due(x.move(0, 2, 0, 0, 3), 3);
        due(x.move(0, 0, 1, 6, 3), 3);
        // 2 3 4 3 4; the other one 0 0 0 0 0 0 2 3 4
        due(x.flies(1), 9);
        due(x.standerIs(0, 4), 0);
        due(x.standerIs(2, 3), 40);
        due(x.standerIs(4, 3), 40);
        due(x.standerIs(1, 3), 32);
    }

    private static void promise32() {
        StandStill x = start("promise 32");
        due(x.flies(-1), B);
        due(x.flies(4), B);
        due(x.flies(0), N);
        x.sheet(0, 8, 5);
        putAll(x, 0, 3, 8, 3, 9, 3);
        due(x.flies(0), 3);
        due(x.standerIs(3, 3), 40);
        due(x.standerIs(8, 3), 50);
        due(x.told(1), 2);
        putAll(x, 0, -1);
        due(x.flies(0), 0);
        x.poke(3);
        putAll(x, 0, 3, 3, 3, 3, 3);
        due(x.flies(0), 5);
        due(x.standerIs(2, 3), 52);
    }

    private static void promise33() {
        StandStill x = start("promise 33");
        due(x.judge(-1), B);
        due(x.judge(4), B);
        due(x.judge(0), N);
        x.sheet(0, 16, 5);
        x.patience(4, 4);
        putAll(x, 0, 9, 9, 8, 8, 8);
        due(x.judge(0), 5);
        putAll(x, 0, 9, 9, 8, 7);
        due(x.judge(0), 3);
        putAll(x, 0, 8);
        due(x.judge(0), 0);
        due(x.count(0), 0);
        x.sheet(0, 16, 0);
        due(x.judge(0), 0);
    }

    private static void promises34And35() {
        StandStill x = start("promises 34, 35");
        due(x.restore(), N);
        x.stander(1, 63);
        x.swap(1, 2);
        x.sun(3);
        x.seed(44);
        Due.text(x, 0, "9");
        Due.text(x, 1, "d");
        x.minutes(2);
        x.poke(7);
        Due.feed(x, "1+");
        x.tell(2);
        x.tell(3);
        x.voice(0, 0, 0);
        x.sheet(0, 8, 1);
        due(x.image(), 1);

        x.stander(1, 0);
        x.swap(1, 3);
        x.sun(7);
        x.seed(45);
        x.untell(0);
        x.untell(1);
        x.minutes(1);
        x.again(7, 8);
        x.poke(6);
        Due.feed(x, "2");
        due(x.text(0), 1);
        x.check();
        x.voice(0, 1, 0);
        x.sheet(0, 8, 2);
        due(x.restore(), 2);
        due(x.standerIs(1, 0), 6);
        due(x.standerIs(1, 1), 3);
        due(x.standerIs(1, 2), 2);
        due(x.count(1), 3);
        due(x.count(7), 44);
        due(x.count(4), 2);
        due(x.count(5), 2);
        due(x.standerIs(1, 5), 9);
        due(x.standerIs(7, 4), 2);
        due(x.standerIs(6, 4), -1);
        due(x.standerIs(6, 3), 51);
        due(x.standerIs(0, 3), 45);
        // what an IMAGE leaves out
        due(x.count(6), 2);
        due(x.put(0, 1, 1), 1);
        due(x.told(2), 1);
        Due.feed(x, "5");
        due(x.text(0), 1);
        due(x.standerIs(1, 5), 6);
        due(x.poke(8), 1);
        due(x.standerIs(6, 3), 49);
        // the IMAGE stays, and what comes later doesn't touch it
        due(x.restore(), 2);
        due(x.count(4), 2);
        due(x.text(0), -12);
        due(x.standerIs(1, 5), 9);
        due(x.standerIs(8, 4), -1);
        due(x.restore(), 2);
        x.minutes(1);
        due(x.image(), 2);
        due(x.restore(), 3);
        due(x.image(), 3);
        due(x.told(2), 1);
    }

    private static void imageOfTapeAndWaiting() {
        StandStill x = start("promise 35, THE TAPE and what waits");
        x.stander(0, 60);
        Due.feed(x, "7+");
        x.tell(30);
        x.tell(5);
        due(x.image(), 1);
        due(x.check(), 2);
        x.tell(4);
        due(Due.text(x, 0, "8"), 1);
        Due.feed(x, "xx");
        due(x.restore(), 0);
        due(x.standerIs(0, 5), 2);
        due(x.check(), 2);
        due(Due.text(x, 0, "1"), 1);
        due(x.standerIs(0, 5), 8);
    }

    private static void promise36() {
        StandStill x = start("promise 36");
        for (int n = 1; n <= 24; n++) {
            due(x.tell(-n), n);
        }
        due(x.tell(5), Due.FULL);
        due(x.count(5), 24);
        due(x.told(4), 1);
        x.check();
        due(x.tell(5), 1);
    }

    private static void promise37() {
        StandStill x = start("promise 37");
        x.minutes(4);
        x.poke(2);
        x.stander(8, 19);
        x.patience(8, 999);
        due(x.check(), 0);
        // 1 and 3 have 44 then, and last 22 minutes more; with them fall all but 8, who is ASLEEP
        int[] out = {26, 26, 4, 26, 26, 26, 26, 26, -1};
        for (int v : out) {
            x.tell(v);
        }
        due(x.check(), 0);
        due(x.count(5), 0);
        for (int v : out) {
            x.tell(v);
        }
        due(x.tell(-1), 10);
        due(x.check(), 10);
        x.tell(26);
        x.tell(26);
        x.tell(5);
        x.tell(0);
        due(x.check(), 3);
        x.tell(0);
        due(x.check(), 1);
        due(x.check(), 0);
        due(x.count(0), 4);
        due(x.count(2), 8);
    }

    private static void promise38() {
        StandStill x = start("promise 38");
        x.minutes(3);
        x.sun(6);
        x.poke(0);
        Due.feed(x, "abc");
        x.tell(1);
        x.voice(1, 2, 1);
        x.seed(-9);
        int[] counts = {3, 6, 8, 8 * 54 - 8, 3, 1, 3, -9};
        for (int what = 0; what < 8; what++) {
            due(x.count(what), counts[what]);
        }
        due(x.count(8), B);
        due(x.count(-1), B);
        x.seed(Due.STATE);
        due(x.count(7), Due.STATE);
        due(x.told(3), 0);
        due(x.told(1), 2);
    }

    private static void promise39() {
        StandStill x = start("promise 39");
        due(x.told(0), B);
        due(x.told(7), B);
        due(x.told(LEAST), B);
        due(x.told(1), 3);
        due(x.slate(0, 0), N);
        due(x.again(0, 1), S);
        due(x.as(0, 6), Due.KIND);
        due(x.as(0, 6), Due.KIND);
        due(x.voice(0, 3, 1), Due.PARTED);
        for (int n = 0; n < 24; n++) {
            x.tell(n);
        }
        due(x.tell(0), Due.FULL);
        int[] told = {3, 1, 1, 1, 2, 1};
        for (int k = 1; k <= 6; k++) {
            due(x.told(k), told[k - 1]);
        }
    }

    public static void main(String[] args) {
        promise1();
        promise2();
        promise3();
        spendingTexts();
        shockTexts();
        promise4();
        promise5();
        promise6();
        promise7();
        promise8();
        promise9();
        promise10();
        promise11();
        promise12();
        promise13();
        promise14();
        promise15();
        settlingOrder();
        promise16();
        promise17();
        promise18();
        promise19();
        promise20();
        promise21();
        promise22();
        roundsInOrder();
        promise23();
        promise24();
        promise25();
        promise26();
        promise27();
        promise28();
        promise29();
        promise30();
        promise31();
        promise32();
        promise33();
        promises34And35();
        imageOfTapeAndWaiting();
        promise36();
        promise37();
        promise38();
        promise39();
        Due.end("PromiseRuns");
    }
}
