import java.util.ArrayList;
import java.util.List;

/**
 * Every refused call: which ERROR it answers, which of two ERRORS comes first, that told() counts it once, and that
 * nothing else is changed by it. For the last each call is refused on one of two like objects, of which all is asked.
 */
public final class RefusedRuns {
    private static final int B = Due.BEYOND;
    private static final int N = Due.NONE;
    private static final int S = Due.STATE;
    private static final int LEAST = Integer.MIN_VALUE;
    private static final int MOST = Integer.MAX_VALUE;

    private interface Call {
        long on(StandStill x);
    }

    private static Call state = x -> 0;

    /**
     * Something of all: KINDS, TEXTS, a tape, numbers that wait, sheets of each width, an IMAGE that is unlike what
     * came behind it. 3 has stirred; SHEET 3 is missing.
     */
    private static StandStill rich() {
        StandStill x = new StandStill();
        int[] kinds = {63, 15, 24, 36, 48, 53, 31, 1, 68};
        for (int i = 0; i < 9; i++) {
            x.stander(i, kinds[i]);
            x.patience(i, 300 + 20 * i);
        }
        Due.text(x, 0, "s+m");
        Due.text(x, 1, "9-d");
        Due.feed(x, "9");
        x.tell(5);
        x.image();
        x.sun(4);
        x.seed(77);
        x.minutes(2);
        x.swap(1, 7);
        x.poke(3);
        Due.feed(x, "+7*m");
        x.check();
        for (int i = 0; i < 9; i++) {
            x.tell(x.then(200, i, 4));
        }
        sheets(x);
        x.voice(2, 2, 7);
        return x;
    }

    private static void sheets(StandStill x) {
        x.sheet(0, 8, 5);
        x.sheet(1, 16, 9);
        x.sheet(2, 32, 24);
        for (int i = 0; i < 24; i++) {
            x.put(0, i, new int[] {1, 4, 4, 8, 9}[i % 5]);
            x.put(1, i, 2 + i);
            x.put(2, i, i * i % 9);
        }
    }

    /** All answers that ask, and then those acts' that show what else is kept. */
    private static List<Long> allOf(StandStill x) {
        List<Long> all = new ArrayList<>();
        asked(x, all);
        sheetsAsked(x, all);
        all.add((long) x.check());
        for (int sheet = 0; sheet < 4; sheet++) {
            all.add((long) x.flies(sheet));
        }
        add(all, x.draws(3), x.minutes(1), x.poke(2), x.text(0), x.restore(), x.image());
        asked(x, all);
        add(all, x.check(), x.text(1), x.poke(2), x.untell(0), x.untell(1));
        for (int i = 0; i < 9; i++) {
            add(all, x.standerIs(i, 3), x.standerIs(i, 5));
        }
        return all;
    }

    private static void add(List<Long> all, long... answers) {
        for (long answer : answers) {
            all.add(answer);
        }
    }

    private static void asked(StandStill x, List<Long> all) {
        for (int what = 0; what <= 7; what++) {
            all.add((long) x.count(what));
        }
        for (int i = 0; i < 9; i++) {
            all.add((long) x.at(i));
            for (int what = 0; what <= 6; what++) {
                all.add((long) x.standerIs(i, what));
            }
        }
        for (int i = 0; i < 7; i++) {
            all.add((long) x.body(i));
        }
    }

    /** How many numbers, of like bits or not, which. */
    private static void sheetsAsked(StandStill x, List<Long> all) {
        for (int sheet = 0; sheet < 4; sheet++) {
            for (int n : new int[] {0, 1, 4, 5, 6, 8, 9, 10, 23, 24}) {
                all.add((long) x.move(sheet, 0, sheet, 0, n));
            }
            for (int other = 0; other < sheet; other++) {
                all.add((long) x.move(sheet, 0, other, 0, 0));
            }
            add(all, x.slate(sheet, 0), x.slate(sheet, 1), x.judge(sheet));
        }
    }

    private static StandStill made() {
        StandStill x = rich();
        state.on(x);
        return x;
    }

    private static int[] toldBy(StandStill x) {
        int[] told = new int[7];
        for (int k = 1; k <= 6; k++) {
            told[k] = x.told(k);
        }
        return told;
    }

    private static void refused(String call, int error, Call act) {
        StandStill one = made();
        StandStill other = made();
        Due.due(call, act.on(one), error);
        int[] told = toldBy(one);
        int[] toldBefore = toldBy(other);
        for (int k = 1; k <= 6; k++) {
            Due.due("told(" + k + ") behind " + call, told[k],
                toldBefore[k] + (error == -1000000000 - k ? 1 : 0));
        }
        List<Long> all = allOf(one);
        List<Long> before = allOf(other);
        for (int i = 0; i < all.size(); i++) {
            Due.due("answer " + i + " of all behind " + call, all.get(i), before.get(i));
        }
    }

    /** The rows' first and last: each one number off is BEYOND, and so are the ends of the ints. */
    private static int[] off(int least, int most) {
        return new int[] {least - 1, most + 1, LEAST, MOST};
    }

    private static void standers() {
        for (int i : off(0, 8)) {
            refused("stander, no such one", B, x -> x.stander(i, 0));
            refused("standerIs, no such one", B, x -> x.standerIs(i, 0));
            refused("as, no such one", B, x -> x.as(i, 0));
            refused("patience, no such one", B, x -> x.patience(i, 5));
            refused("swap, no such first", B, x -> x.swap(i, 0));
            refused("swap, no such second", B, x -> x.swap(0, i));
            refused("again, no such one", B, x -> x.again(i, 5));
            refused("at, no such post", B, x -> x.at(i));
        }
        for (int km : off(0, 69)) {
            refused("stander, no such km", B, x -> x.stander(0, km));
        }
        for (int what : off(0, 6)) {
            refused("standerIs, no such what", B, x -> x.standerIs(0, what));
            refused("as, no such kind", B, x -> x.as(0, what));
        }
        for (int v : off(0, 999)) {
            refused("patience, no such", B, x -> x.patience(0, v));
            refused("patience, no such, ahead of STATE", B, x -> x.patience(3, v));
        }
        for (int v : off(1, 999)) {
            refused("again, no such patience", B, x -> x.again(3, v));
            refused("again, no such patience, ahead of STATE", B, x -> x.again(0, v));
        }
        for (int v : off(0, 9)) {
            refused("sun", B, x -> x.sun(v));
        }
        refused("patience of one who has stirred", S, x -> x.patience(3, 5));
        refused("patience 0 of one who has stirred", S, x -> x.patience(3, 0));
        refused("swap, the first has stirred", S, x -> x.swap(3, 0));
        refused("swap, the second has stirred", S, x -> x.swap(0, 3));
        refused("swap, one twice who has stirred", S, x -> x.swap(3, 3));
        for (int i : off(0, 8)) {
            refused("swap, the first has stirred, but no such second", B, x -> x.swap(3, i));
            refused("swap, the second has stirred, but no such first", B, x -> x.swap(i, 3));
        }
        refused("again, one who stands", S, x -> x.again(0, 5));
    }

    private static void kinds() {
        String[] under = {"0", "01", "02", "03", "014", "025", "06"};
        for (int kind = 0; kind < 7; kind++) {
            int km = 10 * kind + 3;
            state = x -> x.stander(7, km);
            for (int asOne = 0; asOne < 7; asOne++) {
                int as = asOne;
                if (under[kind].indexOf('0' + as) < 0) {
                    refused("kind " + kind + " as " + as, Due.KIND, x -> x.as(7, as));
                }
            }
        }
        state = x -> 0;
    }

    private static void texts() {
        for (int n : off(1, 8)) {
            refused("feed, no such n", B, x -> x.feed(0x3131_3131_3131_3131L, n));
        }
        for (int use : off(0, 1)) {
            refused("text, no such use", B, x -> x.text(use));
            refused("untell, no such use", B, x -> x.untell(use));
        }
        // 5 bytes are there; a text that is one must be cut off, or it would be no law
        state = x -> Due.feed(x, "+1".repeat(24));
        refused("feed of 8 to 53", Due.FULL, x -> x.feed(0x2B31_2B31_2B31_2B31L, 8));
        state = x -> Due.feed(x, "+1".repeat(27));
        for (int bytes = 2; bytes <= 8; bytes++) {
            int n = bytes;
            refused("feed of " + n + " to 59", Due.FULL, x -> x.feed(0x2B31_2B31_2B31_2B31L, n));
        }
        state = x -> Due.feed(x, "+1".repeat(26) + "*12");
        for (int bytes = 1; bytes <= 8; bytes++) {
            int n = bytes;
            refused("feed of " + n + " to 60", Due.FULL, x -> x.feed(0x2B31_2B31_2B31_2B31L, n));
        }
        for (int n : off(1, 8)) {
            refused("feed to 60, no such n, ahead of FULL", B, x -> x.feed(0L, n));
        }
        state = x -> 0;
    }

    private static void minutesAndFlies() {
        for (int n : off(1, 200)) {
            refused("minutes, no such n", B, x -> x.minutes(n));
        }
        for (int post : off(0, 8)) {
            refused("fly, no such post", B, x -> x.fly(post));
            refused("poke, no such one", B, x -> x.poke(post));
        }
        for (int n : off(1, 60)) {
            refused("draws, no such n", B, x -> x.draws(n));
        }
        refused("poke of one who has stirred", S, x -> x.poke(3));
        // an IMAGE far on needs no more calls than 50
        state = x -> toMinute(x, 9800);
        refused("minutes 200 at 9800", S, x -> x.minutes(200));
        state = x -> toMinute(x, 9999);
        refused("minutes 1 at 9999", S, x -> x.minutes(1));
        refused("minutes 200 at 9999", S, x -> x.minutes(200));
        for (int n : off(1, 200)) {
            refused("minutes at 9999, no such n, ahead of STATE", B, x -> x.minutes(n));
        }
        state = x -> 0;
    }

    private static long toMinute(StandStill x, int minute) {
        int now = x.count(0);
        while (now < minute) {
            x.minutes(Math.min(200, minute - now));
            now = x.count(0);
        }
        return now;
    }

    private static void whatWouldBe() {
        for (int n : off(0, 200)) {
            refused("then, no such n", B, x -> x.then(n, 0, 2));
            refused("standing, no such n", B, x -> x.standing(n));
        }
        for (int what : off(2, 4)) {
            refused("then, no such what", B, x -> x.then(0, 0, what));
        }
        for (int i : off(0, 8)) {
            refused("then, no such one", B, x -> x.then(0, i, 2));
            refused("lasts, no such one", B, x -> x.lasts(i));
            refused("round, no such one", B, x -> x.round(i, 1, 0));
            refused("change, no such one", B, x -> x.change(i, 0));
        }
        for (int n : off(1, 3)) {
            refused("round, no such n", B, x -> x.round(0, n, 0));
            refused("round, no such n, ahead of STATE", B, x -> x.round(3, n, 0));
        }
        for (int what : off(0, 1)) {
            refused("round, no such what", B, x -> x.round(0, 1, what));
            refused("round, no such what, ahead of STATE", B, x -> x.round(3, 1, what));
            refused("change, no such what", B, x -> x.change(0, what));
            refused("change, no such what, ahead of STATE", B, x -> x.change(3, what));
            refused("empties, no such what", B, x -> x.empties(what));
        }
        for (int set : off(0, 511)) {
            refused("whose, no such set", B, x -> x.whose(set));
        }
        refused("lasts of one who has stirred", S, x -> x.lasts(3));
        refused("round, of 1, of one who has stirred", S, x -> x.round(3, 1, 0));
        refused("round, of 3, of one who has stirred", S, x -> x.round(3, 3, 1));
        refused("change 0 of one who has stirred", S, x -> x.change(3, 0));
        refused("change 1 of one who has stirred", S, x -> x.change(3, 1));
        state = x -> x.patience(1, 999);
        refused("lasts, not in 200", N, x -> x.lasts(1));
        refused("round, how many, no such row", N, x -> x.round(1, 1, 0));
        refused("round, which, no such row", N, x -> x.round(1, 3, 1));
        state = x -> nobodyStands(x);
        refused("lastOne, nobody stands", N, x -> x.lastOne());
        refused("lasts, nobody stands", S, x -> x.lasts(0));
        state = x -> 0;
    }

    private static long nobodyStands(StandStill x) {
        for (int i = 0; i < 9; i++) {
            x.poke(i);
        }
        return x.count(2);
    }

    private static void slates() {
        for (int sheet : off(0, 3)) {
            refused("slate, no such sheet", B, x -> x.slate(sheet, 0));
        }
        for (int part : off(0, 1)) {
            refused("slate, no such part", B, x -> x.slate(1, part));
            refused("slate, no such part, ahead of NONE, missing", B, x -> x.slate(3, part));
            refused("slate, no such part, ahead of NONE, few", B, x -> x.slate(0, part));
        }
        refused("slate of a missing sheet", N, x -> x.slate(3, 0));
        refused("slate of five numbers", N, x -> x.slate(0, 1));
        state = x -> x.sheet(1, 16, 8);
        refused("slate of eight numbers, all 0, ahead of PARTED", N, x -> x.slate(1, 0));
        state = x -> x.sheet(1, 16, 0);
        refused("slate of no numbers", N, x -> x.slate(1, 1));
        for (int number = 0; number < 9; number++) {
            int i = number;
            for (int v : new int[] {0, 100, -1, 257, 32767}) {
                state = x -> x.put(1, i, v);
                refused("slate, number " + i + " is " + v, Due.PARTED, x -> x.slate(1, 0));
            }
        }
        for (int part : off(0, 1)) {
            refused("slate, no such part, ahead of PARTED", B, x -> x.slate(1, part));
        }
        state = x -> 0;
    }

    private static void voices() {
        for (int i : off(0, 8)) {
            refused("voice, no such one", B, x -> x.voice(i, 0, 1));
        }
        for (int voice : off(0, 3)) {
            refused("voice, no such", B, x -> x.voice(0, voice, 1));
        }
        for (int kind = 0; kind < 7; kind++) {
            int km = 10 * kind + 7;
            state = x -> x.stander(7, km);
            refused("voice 3 with m as the number, kind " + kind, Due.PARTED, x -> x.voice(7, 3, 1));
            refused("voice 3 of 0 with m as the number, kind " + kind, Due.PARTED, x -> x.voice(7, 3, 0));
        }
        state = x -> x.stander(0, 0);
        refused("voice 3 of number 0 with m 0", Due.PARTED, x -> x.voice(0, 3, LEAST));
        state = x -> x.stander(0, 10);
        refused("voice 3 of number 0, ASLEEP, with m 0", Due.PARTED, x -> x.voice(0, 3, MOST));
        state = x -> 0;
        // THE TRACE of rich() has 12, 30, 11, 10
        for (int i : off(0, 3)) {
            refused("body, none such", N, x -> x.body(i));
        }
    }

    private static void sheetsRefused() {
        for (int sheet : off(0, 3)) {
            refused("sheet, no such", B, x -> x.sheet(sheet, 8, 1));
            refused("sheet, no such, of 0 bits", B, x -> x.sheet(sheet, 0, 1));
            refused("sheet, no such, ahead of STATE", B, x -> x.sheet(sheet, 8, -1));
            refused("put, no such sheet", B, x -> x.put(sheet, 0, 1));
            refused("flies, no such sheet", B, x -> x.flies(sheet));
            refused("judge, no such sheet", B, x -> x.judge(sheet));
        }
        for (int bits : new int[] {-1, 1, 4, 7, 9, 15, 17, 24, 31, 33, 64, -8, LEAST, MOST}) {
            refused("sheet of " + bits + " bits", B, x -> x.sheet(0, bits, 1));
            refused("sheet of " + bits + " bits, ahead of STATE", B, x -> x.sheet(0, bits, -1));
        }
        for (int bits : new int[] {8, 16, 32}) {
            refused("sheet of 25 numbers", B, x -> x.sheet(0, bits, 25));
            refused("sheet of most numbers", B, x -> x.sheet(0, bits, MOST));
            refused("sheet of -1 numbers", S, x -> x.sheet(0, bits, -1));
            refused("sheet of least numbers", S, x -> x.sheet(0, bits, LEAST));
            refused("sheet, a missing one, of -1 numbers", S, x -> x.sheet(3, bits, -1));
        }
        refused("put, missing", N, x -> x.put(3, 0, 1));
        refused("flies, missing", N, x -> x.flies(3));
        refused("judge, missing", N, x -> x.judge(3));
        for (int i : off(0, 4)) {
            refused("put, no such number", B, x -> x.put(0, i, 1));
            refused("put, no such number, behind NONE", N, x -> x.put(3, i, 1));
        }
        for (int i : off(0, 23)) {
            refused("put, no such number of 24", B, x -> x.put(2, i, 1));
        }
        state = x -> x.sheet(0, 8, 0);
        refused("put, no number at all", B, x -> x.put(0, 0, 1));
        state = x -> 0;
    }

    private static void moves() {
        for (int sheet : off(0, 3)) {
            refused("move, no such first", B, x -> x.move(sheet, 0, 0, 0, 1));
            refused("move, no such second", B, x -> x.move(0, 0, sheet, 0, 1));
            refused("move, no such first, ahead of NONE", B, x -> x.move(sheet, 0, 3, 0, 1));
            refused("move, no such second, ahead of NONE", B, x -> x.move(3, 0, sheet, 0, 1));
        }
        refused("move, the first is missing", N, x -> x.move(3, 0, 0, 0, 1));
        refused("move, the second is missing", N, x -> x.move(0, 0, 3, 0, 1));
        refused("move, both are missing", N, x -> x.move(3, 0, 3, 0, 0));
        refused("move, missing, ahead of BEYOND of n", N, x -> x.move(3, 0, 0, 0, -1));
        refused("move, 8 to 16 bits", Due.KIND, x -> x.move(0, 0, 1, 0, 1));
        refused("move, 32 to 16 bits", Due.KIND, x -> x.move(2, 0, 1, 0, 1));
        refused("move, 8 to 32 bits, none", Due.KIND, x -> x.move(0, 0, 2, 0, 0));
        refused("move, 8 to 32 bits, ahead of BEYOND of n", Due.KIND, x -> x.move(0, 0, 2, 0, -1));
        refused("move, 8 to 32 bits, ahead of BEYOND of i", Due.KIND, x -> x.move(0, 6, 2, 0, 1));
        refused("move, 8 to 32 bits, ahead of BEYOND of j", Due.KIND, x -> x.move(0, 0, 2, 25, 1));
        // 5 numbers in SHEET 0, 9 of as many bits in SHEET 3
        state = x -> x.sheet(3, 8, 9);
        refused("move, n below 0", B, x -> x.move(0, 1, 3, 1, -1));
        refused("move, i below 0", B, x -> x.move(0, -1, 3, 0, 1));
        refused("move, i below 0, none", B, x -> x.move(0, -1, 3, 0, 0));
        refused("move, j below 0", B, x -> x.move(0, 0, 3, -1, 1));
        refused("move, j below 0, none", B, x -> x.move(0, 0, 3, -1, 0));
        refused("move, one behind the last of the first", B, x -> x.move(0, 5, 3, 0, 1));
        refused("move, six of five", B, x -> x.move(0, 0, 3, 0, 6));
        refused("move, five from number 1 on", B, x -> x.move(0, 1, 3, 0, 5));
        refused("move, one behind the last of the second", B, x -> x.move(0, 0, 3, 9, 1));
        refused("move, five to number 5", B, x -> x.move(0, 0, 3, 5, 5));
        refused("move, six of nine to five", B, x -> x.move(3, 0, 0, 0, 6));
        refused("move within, five to number 1", B, x -> x.move(0, 0, 0, 1, 5));
        refused("move within, four from 2 on", B, x -> x.move(0, 2, 0, 0, 4));
        refused("move, sums that wrap", B, x -> x.move(0, MOST, 3, MOST, MOST));
        refused("move, i and n that wrap to 0", B, x -> x.move(0, 1 << 30, 3, 0, 3 << 30));
        refused("move, i that wraps", B, x -> x.move(0, MOST, 3, 0, 1));
        refused("move, j that wraps", B, x -> x.move(0, 0, 3, MOST, 1));
        refused("move, least n", B, x -> x.move(0, 0, 3, 0, LEAST));
        refused("move, most n", B, x -> x.move(0, 0, 3, 0, MOST));
        refused("move, least i", B, x -> x.move(0, LEAST, 3, 0, 1));
        refused("move, least j", B, x -> x.move(0, 0, 3, LEAST, 1));
        state = x -> 0;
    }

    private static void whatIsTold() {
        for (int what : off(0, 7)) {
            refused("count, no such what", B, x -> x.count(what));
        }
        for (int k : off(1, 6)) {
            refused("told, another k", B, x -> x.told(k));
        }
        state = x -> {
            for (int n = 9; n < 24; n++) {
                x.tell(-1);
            }
            return x.count(5);
        };
        refused("tell, 24 wait", Due.FULL, x -> x.tell(7));
        state = x -> 0;
        // of a new object, which has no IMAGE: rich() has one
        StandStill x = new StandStill();
        x.sun(3);
        x.tell(4);
        Due.feed(x, "1");
        Due.due("restore, there is none", x.restore(), N);
        Due.due("told(2) behind restore", x.told(2), 1);
        Due.due("sun behind restore", x.count(1), 3);
        Due.due("what waits behind restore", x.count(5), 1);
        Due.due("the tape behind restore", x.count(4), 1);
        Due.due("image behind restore", x.image(), 1);
        Due.due("restore behind image", x.restore(), 0);
        Due.due("body of no trace", x.body(0), N);
    }

    /** Acts whose answers are none of the ERRORS, however low or odd they are. */
    private static void noErrors() {
        StandStill x = new StandStill();
        for (int k = 0; k <= 7; k++) {
            x.seed(-1000000000 - k);
            Due.due("count 7 as low as an ERROR", x.count(7), -1000000000 - k);
        }
        Due.due("a text's FAULT", x.text(0), -10);
        Due.due("a voice as low as an ERROR", x.voice(1, 0, -1000000002), Due.BEYOND);
        x.sheet(0, 8, 1);
        x.put(0, 0, 9);
        Due.due("flies up to one that is none", x.flies(0), 0);
        Due.due("fly at one who stands", x.fly(0), 0);
        x.poke(0);
        Due.due("fly at one who has stirred", x.fly(0), 0);
        for (int k = 1; k <= 6; k++) {
            Due.due("told(" + k + ") where there was no ERROR", x.told(k), 0);
        }
    }

    /** The numbers that wait in rich() are right, so that check() shows a change of any of them. */
    private static void richIsAsMeant() {
        Due.due("check of rich()", rich().check(), 0);
        Due.due("text of rich()", rich().text(0), 1);
        Due.due("restore of rich()", rich().restore(), 0);
        Due.due("bodies of rich()", rich().count(6), 4);
        Due.due("who stands in rich()", rich().count(2), 8);
    }

    public static void main(String[] args) {
        richIsAsMeant();
        standers();
        kinds();
        texts();
        minutesAndFlies();
        whatWouldBe();
        slates();
        voices();
        sheetsRefused();
        moves();
        whatIsTold();
        noErrors();
        Due.end("RefusedRuns");
    }
}
