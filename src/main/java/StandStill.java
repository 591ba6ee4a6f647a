/** Nine stand on posts side by side, and who stirs last wins. What each call promises stands in the document. */
public final class StandStill {
    private static final int LOW = -1000000000;
    private static final int BEYOND = 1;
    private static final int NONE = 2;
    private static final int STATE = 3;
    private static final int FULL = 4;
    private static final int KIND = 5;
    private static final int PARTED = 6;

    private static final int NINE = 9;
    private static final int KINDS = 7;
    private static final int USES = 2;
    private static final int ALL_SETS = 512;
    private static final int FIRST_PATIENCE = 60;
    private static final int MOST_PATIENCE = 999;
    private static final int MOST_SUN = 9;
    private static final int LAST_MINUTE = 9999;
    private static final int MOST_AHEAD = 200;
    private static final int NEVER = 201;
    private static final int MOST_HELD = 99;
    private static final int SHAKEN_BESIDE = 8;
    private static final int MOST_DRAWS = 60;
    private static final int TAPE_BYTES = 60;
    private static final int MOST_OPEN = 5;
    private static final int MOST_BODIES = 30;
    private static final int MOST_WAITING = 24;
    private static final int SHEETS = 4;
    private static final int SHEET_NUMBERS = 24;
    private static final int MOST_PRICE = 99;
    private static final int MOST_ROUND = 3;
    private static final int[] NINES = {1, 9, 81, 729};
    private static final int[] TENS = {1, 10, 100, 1000};

    private final Scene now;
    private final Scene kept;
    private final Row ahead;
    private final Row[] steps;
    private final Speaker speaker;
    private final int[][] sheets;
    private final int[] bitsOf;
    private final int[] sizeOf;
    private final int[] errors;
    private int images;

    /** Promise 1. */
    public StandStill() {
        Stander[] kinds = {
            new Stander(), new Asleep(), new Leaning(), new Ticklish(), new Proud(), new Twin(), new Told()};
        now = new Scene(kinds);
        kept = new Scene(kinds);
        ahead = new Row(kinds, now.spending, now.shock);
        steps = new Row[MOST_ROUND + 1];
        for (int f = 0; f <= MOST_ROUND; f++) {
            steps[f] = new Row(kinds, now.spending, now.shock);
        }
        speaker = new Speaker();
        sheets = new int[SHEETS][SHEET_NUMBERS];
        bitsOf = new int[SHEETS];
        sizeOf = new int[SHEETS];
        errors = new int[PARTED + 1];
        images = 0;
    }

    // ---- standers, the sun

    /** Promise 2. */
    public int stander(int stander, int km) {
        if (!isStander(stander) || !within(km, 0, 10 * KINDS - 1)) {
            return fails(BEYOND);
        }
        int was = 10 * now.row.kind[stander] + now.row.m[stander];
        now.row.kind[stander] = km / 10;
        now.row.m[stander] = km % 10;
        return was;
    }

    /** Promise 3. */
    public int standerIs(int stander, int what) {
        if (!isStander(stander) || !within(what, 0, 6)) {
            return fails(BEYOND);
        }
        switch (what) {
            case 0: return now.row.kind[stander];
            case 1: return now.row.m[stander];
            case 5: return now.row.spends(stander);
            case 6: return now.row.bite(stander);
            default: return now.row.is(stander, what);
        }
    }

    /** Promise 4. */
    public int as(int stander, int kind) {
        if (!isStander(stander) || !within(kind, 0, KINDS - 1)) {
            return fails(BEYOND);
        }
        if (!isOf(now.row.kindOf(stander), kind)) {
            return fails(KIND);
        }
        return now.row.m[stander];
    }

    /** Promise 5. */
    public int patience(int stander, int v) {
        if (!isStander(stander) || !within(v, 0, MOST_PATIENCE)) {
            return fails(BEYOND);
        }
        if (!now.row.stands(stander)) {
            return fails(STATE);
        }
        int was = now.row.left[stander];
        now.row.left[stander] = v;
        now.row.settle();
        return was;
    }

    /** Promise 6. */
    public int swap(int one, int other) {
        if (!isStander(one) || !isStander(other)) {
            return fails(BEYOND);
        }
        if (!now.row.stands(one) || !now.row.stands(other)) {
            return fails(STATE);
        }
        now.row.changePosts(one, other);
        return now.row.post[one];
    }

    /** Promise 7. */
    public int again(int stander, int patience) {
        if (!isStander(stander) || !within(patience, 1, MOST_PATIENCE)) {
            return fails(BEYOND);
        }
        if (now.row.stands(stander)) {
            return fails(STATE);
        }
        now.row.out[stander] = -1;
        now.row.left[stander] = patience;
        return 1;
    }

    /** Promise 8. */
    public int sun(int v) {
        if (!within(v, 0, MOST_SUN)) {
            return fails(BEYOND);
        }
        int was = now.row.sun;
        now.row.sun = v;
        return was;
    }

    /** Promise 9. */
    public int at(int post) {
        if (!isPost(post)) {
            return fails(BEYOND);
        }
        return now.row.whoIsAt(post);
    }

    // ---- texts

    /** Promise 10. */
    public int feed(long word, int n) {
        if (!within(n, 1, 8)) {
            return fails(BEYOND);
        }
        if (now.fed > TAPE_BYTES - n) {
            return fails(FULL);
        }
        for (int b = 0; b < n; b++) {
            now.tape[now.fed] = (byte) (word >>> (8 * b));
            now.fed++;
        }
        return now.fed;
    }

    /** Promise 11. */
    public int text(int use) {
        if (!within(use, 0, USES - 1)) {
            return fails(BEYOND);
        }
        int fault = now.lawOf(use).read(now.tape, now.fed);
        now.fed = 0;
        return fault < 0 ? 1 : -10 - fault;
    }

    /** Promise 12. */
    public int untell(int use) {
        if (!within(use, 0, USES - 1)) {
            return fails(BEYOND);
        }
        Law law = now.lawOf(use);
        int was = law.isMissing() ? 0 : 1;
        law.forget();
        return was;
    }

    // ---- minutes, flies

    /** Promise 13. */
    public int minutes(int n) {
        if (!within(n, 1, MOST_AHEAD)) {
            return fails(BEYOND);
        }
        if (now.row.minute + n > LAST_MINUTE) {
            return fails(STATE);
        }
        return now.row.pass(n);
    }

    /** Promise 14. */
    public int fly(int post) {
        if (!isPost(post)) {
            return fails(BEYOND);
        }
        return now.row.flyAt(post);
    }

    /** Promise 15. */
    public int poke(int stander) {
        if (!isStander(stander)) {
            return fails(BEYOND);
        }
        if (!now.row.stands(stander)) {
            return fails(STATE);
        }
        return now.row.pokeOne(stander);
    }

    /** Promise 16. */
    public int draws(int n) {
        if (!within(n, 1, MOST_DRAWS)) {
            return fails(BEYOND);
        }
        int stirred = 0;
        for (int f = 0; f < n; f++) {
            stirred += now.row.flyAt(now.draw() % NINE);
        }
        return stirred;
    }

    /** Promise 17. */
    public int seed(int v) {
        int was = now.z;
        now.z = v;
        return was;
    }

    // ---- what would be

    /** Promise 18. */
    public int then(int n, int stander, int what) {
        if (!within(n, 0, MOST_AHEAD) || !isStander(stander) || !within(what, 2, 4)) {
            return fails(BEYOND);
        }
        lookAhead(n);
        return ahead.is(stander, what);
    }

    /** Promise 19. */
    public int standing(int n) {
        if (!within(n, 0, MOST_AHEAD)) {
            return fails(BEYOND);
        }
        lookAhead(n);
        return ahead.howMany();
    }

    /** Promise 20. */
    public int lasts(int stander) {
        if (!isStander(stander)) {
            return fails(BEYOND);
        }
        if (!now.row.stands(stander)) {
            return fails(STATE);
        }
        ahead.copyFrom(now.row);
        int lasting = ahead.lastsFor(stander);
        return lasting == NEVER ? fails(NONE) : lasting;
    }

    /** Promise 21. */
    public int lastOne() {
        lookAhead(MOST_AHEAD);
        int last = -1;
        int longest = 0;
        for (int i = 0; i < NINE; i++) {
            if (!now.row.stands(i)) {
                continue;
            }
            int lasting = ahead.stands(i) ? NEVER : ahead.out[i] - now.row.minute;
            if (lasting > longest) {
                longest = lasting;
                last = i;
            }
        }
        return last < 0 ? fails(NONE) : last;
    }

    /** Promise 22. */
    public int round(int stander, int n, int what) {
        if (!isStander(stander) || !within(n, 1, MOST_ROUND) || !within(what, 0, 1)) {
            return fails(BEYOND);
        }
        if (!now.row.stands(stander)) {
            return fails(STATE);
        }
        int best = bestRound(stander, n);
        if (best < 0) {
            return fails(NONE);
        }
        return what == 0 ? best / TENS[MOST_ROUND] : best % TENS[MOST_ROUND];
    }

    /** Promise 23. */
    public int change(int stander, int what) {
        if (!isStander(stander) || !within(what, 0, 1)) {
            return fails(BEYOND);
        }
        if (!now.row.stands(stander)) {
            return fails(STATE);
        }
        int best = stander;
        int longest = 0;
        for (int other = 0; other < NINE; other++) {
            if (!now.row.stands(other)) {
                continue;
            }
            ahead.copyFrom(now.row);
            ahead.changePosts(stander, other);
            int lasting = ahead.lastsFor(stander);
            if (lasting > longest) {
                longest = lasting;
                best = other;
            }
        }
        return what == 0 ? best : longest;
    }

    /** Promise 24. */
    public int empties(int what) {
        if (!within(what, 0, 1)) {
            return fails(BEYOND);
        }
        int all = now.row.bits();
        int best = all;
        for (int set = 0; set < all; set++) {
            boolean smaller = Integer.bitCount(set) < Integer.bitCount(best);
            if (smaller && (set & ~all) == 0 && isEmptiedBy(set)) {
                best = set;
            }
        }
        return what == 0 ? Integer.bitCount(best) : best;
    }

    /** Promise 25. */
    public int whose(int set) {
        if (!within(set, 0, ALL_SETS - 1)) {
            return fails(BEYOND);
        }
        int all = now.row.bits();
        int found = 0;
        for (int i = 0; i < NINE; i++) {
            if (!now.row.stands(i)) {
                continue;
            }
            ahead.copyFrom(now.row);
            ahead.pokeOne(i);
            if ((all & ~ahead.bits()) == set) {
                found |= 1 << i;
            }
        }
        return found;
    }

    /** Promise 26. */
    public long slate(int sheet, int part) {
        if (!isSheet(sheet) || !within(part, 0, 1)) {
            return fails(BEYOND);
        }
        if (isMissing(sheet) || sizeOf[sheet] < NINE) {
            return fails(NONE);
        }
        long above = 0;
        long below = 1;
        for (int i = 0; i < NINE; i++) {
            int price = sheets[sheet][i];
            if (!within(price, 1, MOST_PRICE)) {
                return fails(PARTED);
            }
            above = above * price + below;
            below = below * price;
        }
        long common = commonDivisor(above, below);
        return part == 0 ? above / common : below / common;
    }

    // ---- voices, sheets, images, what is told

    /** Promise 27. */
    public int voice(int stander, int voice, int x) {
        if (!isStander(stander) || !within(voice, 0, 3)) {
            return fails(BEYOND);
        }
        Stander kind = now.row.kindOf(stander);
        speaker.starts(stander, now.row.m[stander]);
        int answer;
        switch (voice) {
            case 0: answer = kind.holds(speaker, x); break;
            case 1: answer = kind.leans(speaker, x); break;
            case 2: answer = kind.sways(speaker, x); break;
            default: answer = kind.parts(speaker, x); break;
        }
        if (speaker.parted) {
            return fails(PARTED);
        }
        speaker.keep();
        return answer;
    }

    /** Promise 28. */
    public int body(int i) {
        if (!within(i, 0, speaker.traced - 1)) {
            return fails(NONE);
        }
        return speaker.trace[i];
    }

    /** Promise 29. */
    public int sheet(int sheet, int bits, int n) {
        if (!isSheet(sheet) || !isWidth(bits)) {
            return fails(BEYOND);
        }
        if (bits != 0 && n < 0) {
            return fails(STATE);
        }
        if (bits != 0 && n > SHEET_NUMBERS) {
            return fails(BEYOND);
        }
        bitsOf[sheet] = bits;
        sizeOf[sheet] = bits == 0 ? 0 : n;
        for (int i = 0; i < SHEET_NUMBERS; i++) {
            sheets[sheet][i] = 0;
        }
        return 1;
    }

    /** Promise 30. */
    public int put(int sheet, int i, int v) {
        if (!isSheet(sheet)) {
            return fails(BEYOND);
        }
        if (isMissing(sheet)) {
            return fails(NONE);
        }
        if (!within(i, 0, sizeOf[sheet] - 1)) {
            return fails(BEYOND);
        }
        sheets[sheet][i] = lowestBits(bitsOf[sheet], v);
        return 1;
    }

    /** Promise 31. */
    public int move(int sheet, int i, int other, int j, int n) {
        if (!isSheet(sheet) || !isSheet(other)) {
            return fails(BEYOND);
        }
        if (isMissing(sheet) || isMissing(other)) {
            return fails(NONE);
        }
        if (bitsOf[sheet] != bitsOf[other]) {
            return fails(KIND);
        }
        if (!stand(sheet, i, n) || !stand(other, j, n)) {
            return fails(BEYOND);
        }
        System.arraycopy(sheets[sheet], i, sheets[other], j, n);
        return n;
    }

    /** Promise 32. */
    public int flies(int sheet) {
        if (!isSheet(sheet)) {
            return fails(BEYOND);
        }
        if (isMissing(sheet)) {
            return fails(NONE);
        }
        int flown = 0;
        while (flown < sizeOf[sheet] && isPost(sheets[sheet][flown])) {
            now.row.flyAt(sheets[sheet][flown]);
            flown++;
        }
        return flown;
    }

    /** Promise 33. */
    public int judge(int sheet) {
        if (!isSheet(sheet)) {
            return fails(BEYOND);
        }
        if (isMissing(sheet)) {
            return fails(NONE);
        }
        ahead.copyFrom(now.row);
        int right = 0;
        while (right < sizeOf[sheet] && sheets[sheet][right] == ahead.howMany()) {
            ahead.passMinute();
            right++;
        }
        return right;
    }

    /** Promise 34. */
    public int image() {
        kept.copyFrom(now);
        images++;
        return images;
    }

    /** Promise 35. */
    public int restore() {
        if (images == 0) {
            return fails(NONE);
        }
        now.copyFrom(kept);
        return now.row.minute;
    }

    /** Promise 36. */
    public int tell(int v) {
        if (now.waiting >= MOST_WAITING) {
            return fails(FULL);
        }
        now.waits[now.waiting] = v;
        now.waiting++;
        return now.waiting;
    }

    /** Promise 37. */
    public int check() {
        int waiting = now.waiting;
        now.waiting = 0;
        lookAhead(MOST_AHEAD);
        for (int i = 0; i < waiting; i++) {
            if (i >= NINE || now.waits[i] != ahead.out[i]) {
                return 1 + i;
            }
        }
        return 0;
    }

    /** Promise 38. */
    public int count(int what) {
        switch (what) {
            case 0: return now.row.minute;
            case 1: return now.row.sun;
            case 2: return now.row.howMany();
            case 3: return now.row.allPatience();
            case 4: return now.fed;
            case 5: return now.waiting;
            case 6: return speaker.traced;
            case 7: return now.z;
            default: return fails(BEYOND);
        }
    }

    /** Promise 39. */
    public int told(int k) {
        if (!within(k, BEYOND, PARTED)) {
            return fails(BEYOND);
        }
        return errors[k];
    }

    // ---- what the calls share

    private int fails(int error) {
        errors[error]++;
        return LOW - error;
    }

    private static boolean within(int v, int least, int most) {
        return v >= least && v <= most;
    }

    private static boolean isStander(int i) {
        return within(i, 0, NINE - 1);
    }

    private static boolean isPost(int post) {
        return within(post, 0, NINE - 1);
    }

    private static boolean isSheet(int sheet) {
        return within(sheet, 0, SHEETS - 1);
    }

    private boolean isMissing(int sheet) {
        return bitsOf[sheet] == 0;
    }

    private static boolean isWidth(int bits) {
        return bits == 0 || bits == 8 || bits == 16 || bits == 32;
    }

    private static int lowestBits(int bits, int v) {
        switch (bits) {
            case 8: return (byte) v;
            case 16: return (short) v;
            default: return v;
        }
    }

    private boolean stand(int sheet, int from, int n) {
        return n >= 0 && from >= 0 && n <= sizeOf[sheet] - from;
    }

    private static boolean isOf(Stander one, int kind) {
        switch (kind) {
            case 1: return one instanceof Asleep;
            case 2: return one instanceof Leaning;
            case 3: return one instanceof Ticklish;
            case 4: return one instanceof Proud;
            case 5: return one instanceof Twin;
            case 6: return one instanceof Told;
            default: return kind == 0;
        }
    }

    private static long commonDivisor(long a, long b) {
        long larger = a;
        long smaller = b;
        // a step at least halves the product of both, so that twice the bits of a long are more than enough
        for (int step = 0; step < 128 && smaller != 0; step++) {
            long rest = larger % smaller;
            larger = smaller;
            smaller = rest;
        }
        return Math.max(1, larger);
    }

    private void lookAhead(int n) {
        ahead.copyFrom(now.row);
        ahead.pass(n);
    }

    private boolean isEmptiedBy(int set) {
        ahead.copyFrom(now.row);
        for (int i = 0; i < NINE; i++) {
            if ((set >> i & 1) == 1 && ahead.stands(i)) {
                ahead.pokeOne(i);
            }
        }
        return ahead.bits() == 0;
    }

    /** How many others STIR, times 1000, and the row's figures: so the least is the best; -1: there is no such row. */
    private int bestRound(int stander, int n) {
        int standing = now.row.howMany();
        int best = -1;
        steps[0].copyFrom(now.row);
        for (int row = 0; row < NINES[n]; row++) {
            flyRow(row, n);
            if (steps[n].stands(stander)) {
                continue;
            }
            int others = standing - 1 - steps[n].howMany();
            int found = others * TENS[MOST_ROUND] + figures(row, n);
            if (best < 0 || found < best) {
                best = found;
            }
        }
        return best;
    }

    // rows come in order, so what the unchanged POSTS ahead did still stands in the steps
    private void flyRow(int row, int n) {
        for (int f = 0; f < n; f++) {
            int unit = NINES[n - 1 - f];
            if (row % unit == 0) {
                steps[f + 1].copyFrom(steps[f]);
                steps[f + 1].flyAt(row / unit % NINE);
            }
        }
    }

    private static int figures(int row, int n) {
        int told = 0;
        for (int f = 0; f < n; f++) {
            told += (row / NINES[f] % NINE + 1) * TENS[f];
        }
        return told;
    }

    /** What an IMAGE keeps. */
    private static final class Scene {
        final Law spending;
        final Law shock;
        final Row row;
        final byte[] tape;
        final int[] waits;
        int fed;
        int waiting;
        int z;

        Scene(Stander[] kinds) {
            spending = new Law('s');
            shock = new Law('d');
            row = new Row(kinds, spending, shock);
            tape = new byte[TAPE_BYTES];
            waits = new int[MOST_WAITING];
            z = 1;
        }

        void copyFrom(Scene other) {
            spending.copyFrom(other.spending);
            shock.copyFrom(other.shock);
            row.copyFrom(other.row);
            System.arraycopy(other.tape, 0, tape, 0, TAPE_BYTES);
            System.arraycopy(other.waits, 0, waits, 0, MOST_WAITING);
            fed = other.fed;
            waiting = other.waiting;
            z = other.z;
        }

        Law lawOf(int use) {
            return use == 0 ? spending : shock;
        }

        int draw() {
            z = z * 1103515245 + 12345;
            return z >>> 8;
        }
    }

    /** The nine on their POSTS, SUN and MINUTE. The laws are those of the scene, so that rows ahead need no copies. */
    private static final class Row {
        final int[] kind;
        final int[] m;
        final int[] post;
        final int[] left;
        final int[] out;
        int sun;
        int minute;
        final Law spending;
        private final Law shock;
        private final Stander[] kinds;

        Row(Stander[] kinds, Law spending, Law shock) {
            this.kinds = kinds;
            this.spending = spending;
            this.shock = shock;
            kind = new int[NINE];
            m = new int[NINE];
            post = new int[NINE];
            left = new int[NINE];
            out = new int[NINE];
            for (int i = 0; i < NINE; i++) {
                post[i] = i;
                left[i] = FIRST_PATIENCE;
                out[i] = -1;
            }
            sun = 1;
        }

        void copyFrom(Row other) {
            System.arraycopy(other.kind, 0, kind, 0, NINE);
            System.arraycopy(other.m, 0, m, 0, NINE);
            System.arraycopy(other.post, 0, post, 0, NINE);
            System.arraycopy(other.left, 0, left, 0, NINE);
            System.arraycopy(other.out, 0, out, 0, NINE);
            sun = other.sun;
            minute = other.minute;
        }

        Stander kindOf(int i) {
            return kinds[kind[i]];
        }

        boolean stands(int i) {
            return out[i] < 0;
        }

        int is(int i, int what) {
            switch (what) {
                case 2: return post[i];
                case 3: return left[i];
                default: return out[i];
            }
        }

        int spends(int i) {
            return held(kindOf(i).spending(this, i));
        }

        int bite(int i) {
            return kindOf(i).biting(m[i]);
        }

        int whoIsAt(int place) {
            for (int i = 0; i < NINE; i++) {
                if (post[i] == place) {
                    return i;
                }
            }
            return -1;
        }

        int bits() {
            int set = 0;
            for (int i = 0; i < NINE; i++) {
                if (stands(i)) {
                    set |= 1 << i;
                }
            }
            return set;
        }

        int howMany() {
            return Integer.bitCount(bits());
        }

        int allPatience() {
            int sum = 0;
            for (int i = 0; i < NINE; i++) {
                if (stands(i)) {
                    sum += left[i];
                }
            }
            return sum;
        }

        void changePosts(int one, int other) {
            int place = post[one];
            post[one] = post[other];
            post[other] = place;
        }

        int pass(int n) {
            int stirred = 0;
            for (int k = 0; k < n; k++) {
                stirred += passMinute();
            }
            return stirred;
        }

        int passMinute() {
            minute++;
            for (int i = 0; i < NINE; i++) {
                if (stands(i)) {
                    lessen(i, spends(i));
                }
            }
            return settle();
        }

        int flyAt(int place) {
            int i = whoIsAt(place);
            if (i >= 0 && stands(i)) {
                lessen(i, bite(i));
            }
            return settle();
        }

        int pokeOne(int i) {
            left[i] = 0;
            return settle();
        }

        /** In how many MINUTES one will have stirred, which go by here. */
        int lastsFor(int i) {
            for (int k = 1; k <= MOST_AHEAD; k++) {
                passMinute();
                if (!stands(i)) {
                    return k;
                }
            }
            return NEVER;
        }

        /** How many STIRRED till all is settled. */
        int settle() {
            int stirred = 0;
            int next = leastAtZero();
            while (next >= 0 && stirred < NINE) {
                stir(next);
                stirred++;
                next = leastAtZero();
            }
            return stirred;
        }

        private int leastAtZero() {
            for (int i = 0; i < NINE; i++) {
                if (stands(i) && left[i] == 0) {
                    return i;
                }
            }
            return -1;
        }

        private void stir(int one) {
            out[one] = minute;
            for (int i = 0; i < NINE; i++) {
                if (!stands(i)) {
                    continue;
                }
                int away = Math.abs(post[i] - post[one]);
                if (!shock.isMissing()) {
                    lessen(i, held(shock.gives(away, left[i], m[i])));
                } else if (away == 1) {
                    lessen(i, SHAKEN_BESIDE);
                }
            }
        }

        private void lessen(int i, int by) {
            left[i] = Math.max(0, left[i] - by);
        }

        private static int held(int v) {
            return Math.max(0, Math.min(MOST_HELD, v));
        }
    }

    /** A TEXT, as steps to be worked out in a row: a number is itself, a sign (a NAME, too) is below 0. */
    private static final class Law {
        private final char own;
        private final int[] stack;
        private int[] code;
        private int length;
        private int[] draft;
        private int drafted;
        private byte[] tape;
        private int size;
        private int place;

        /** own: the NAME that this law has beside p and m. */
        Law(char own) {
            this.own = own;
            stack = new int[TAPE_BYTES];
            code = new int[TAPE_BYTES];
            draft = new int[TAPE_BYTES];
        }

        void copyFrom(Law other) {
            System.arraycopy(other.code, 0, code, 0, TAPE_BYTES);
            length = other.length;
        }

        boolean isMissing() {
            return length == 0;
        }

        void forget() {
            length = 0;
        }

        int gives(int ownValue, int p, int m) {
            int top = 0;
            for (int i = 0; i < length && top < TAPE_BYTES; i++) {
                int step = code[i];
                if (step >= 0) {
                    stack[top++] = step;
                    continue;
                }
                switch (-step) {
                    case 's':
                    case 'd': stack[top++] = ownValue; break;
                    case 'p': stack[top++] = p; break;
                    case 'm': stack[top++] = m; break;
                    case '!':
                        if (top >= 1) {
                            stack[top - 1] = stack[top - 1] == 0 ? 1 : 0;
                        }
                        break;
                    default:
                        if (top >= 2) {
                            top--;
                            stack[top - 1] = joined(-step, stack[top - 1], stack[top]);
                        }
                        break;
                }
            }
            return stack[0];
        }

        private static int joined(int sign, int a, int b) {
            switch (sign) {
                case '+': return a + b;
                case '-': return a - b;
                case '*': return a * b;
                case '/': return b == 0 ? 0 : a / b;
                case '%': return b == 0 ? 0 : a % b;
                case '<': return a < b ? 1 : 0;
                case '=': return a == b ? 1 : 0;
                case '>': return a > b ? 1 : 0;
                case '&': return a != 0 && b != 0 ? 1 : 0;
                default: return a != 0 || b != 0 ? 1 : 0;
            }
        }

        /** Reads a tape: -1, and this is its TEXT then; or the FAULT, and all stays. */
        int read(byte[] bytes, int count) {
            tape = bytes;
            size = Math.min(count, bytes.length);
            place = 0;
            drafted = 0;
            if (!readEither(0) || place < size) {
                return place;
            }
            int[] old = code;
            code = draft;
            length = drafted;
            draft = old;
            return -1;
        }

        // each of these reads on from the place, and stays at the FAULT where it answers false

        private boolean readEither(int open) {
            boolean fine = readBoth(open);
            for (int turn = 0; turn < TAPE_BYTES && fine && sees('|'); turn++) {
                place++;
                fine = readBoth(open);
                write(-'|');
            }
            return fine;
        }

        private boolean readBoth(int open) {
            boolean fine = readCompared(open);
            for (int turn = 0; turn < TAPE_BYTES && fine && sees('&'); turn++) {
                place++;
                fine = readCompared(open);
                write(-'&');
            }
            return fine;
        }

        private boolean readCompared(int open) {
            boolean fine = readSum(open);
            if (fine && (sees('<') || sees('=') || sees('>'))) {
                int sign = takeSign();
                fine = readSum(open);
                write(-sign);
            }
            return fine;
        }

        private boolean readSum(int open) {
            boolean fine = readProduct(open);
            for (int turn = 0; turn < TAPE_BYTES && fine && (sees('+') || sees('-')); turn++) {
                int sign = takeSign();
                fine = readProduct(open);
                write(-sign);
            }
            return fine;
        }

        private boolean readProduct(int open) {
            boolean fine = readUnit(open);
            for (int turn = 0; turn < TAPE_BYTES && fine && (sees('*') || sees('/') || sees('%')); turn++) {
                int sign = takeSign();
                fine = readUnit(open);
                write(-sign);
            }
            return fine;
        }

        private boolean readUnit(int open) {
            if (seesDigit()) {
                readNumber();
                return true;
            }
            if (sees(own) || sees('p') || sees('m')) {
                write(-takeSign());
                return true;
            }
            if (open >= MOST_OPEN) {
                return false;
            }
            if (sees('!')) {
                place++;
                boolean fine = readUnit(open + 1);
                write(-'!');
                return fine;
            }
            return readBracket(open);
        }

        private boolean readBracket(int open) {
            if (!sees('(')) {
                return false;
            }
            place++;
            if (!readEither(open + 1) || !sees(')')) {
                return false;
            }
            place++;
            return true;
        }

        private void readNumber() {
            int number = 0;
            for (int digit = 0; digit < 4 && seesDigit(); digit++) {
                number = number * 10 + takeSign() - '0';
            }
            write(number);
        }

        private int nextSign() {
            return place < size ? tape[place] : -1;
        }

        private int takeSign() {
            int sign = nextSign();
            place++;
            return sign;
        }

        private boolean sees(char sign) {
            return nextSign() == sign;
        }

        private boolean seesDigit() {
            return nextSign() >= '0' && nextSign() <= '9';
        }

        private void write(int step) {
            if (drafted < TAPE_BYTES) {
                draft[drafted] = step;
                drafted++;
            }
        }
    }

    /** Who speaks, which BODIES began by it, and THE TRACE. */
    private static final class Speaker {
        int k;
        int m;
        boolean parted;
        int traced;
        final int[] trace;
        private final int[] begun;
        private int beginnings;

        Speaker() {
            trace = new int[MOST_BODIES];
            begun = new int[MOST_BODIES];
        }

        void starts(int number, int itsM) {
            k = number;
            m = itsM;
            parted = false;
            beginnings = 0;
        }

        void begins(int number) {
            if (beginnings < MOST_BODIES) {
                begun[beginnings] = number;
                beginnings++;
            }
        }

        // a PARTED one is an ERROR, and changes nothing: THE TRACE stays
        void keep() {
            System.arraycopy(begun, 0, trace, 0, beginnings);
            traced = beginnings;
        }
    }

    /** A KIND; of each there is one object, to which who is of it is told. */
    private static class Stander {
        int spending(Row row, int i) {
            return 1 + row.sun;
        }

        int biting(int m) {
            return 10;
        }

        int holds(Speaker s, int x) {
            s.begins(10);
            return x + s.k;
        }

        int leans(Speaker s, int x) {
            s.begins(11);
            return holds(s, x) * 2;
        }

        int sways(Speaker s, int x) {
            s.begins(12);
            return leans(s, x) - s.m;
        }

        int parts(Speaker s, int x) {
            s.begins(13);
            int by = s.m - s.k;
            if (by == 0) {
                s.parted = true;
                return 0;
            }
            return x / by;
        }
    }

    private static class Asleep extends Stander {
        int spending(Row row, int i) {
            return 1;
        }

        int biting(int m) {
            return 0;
        }

        int holds(Speaker s, int x) {
            s.begins(20);
            return super.holds(s, x) - 4;
        }

        int parts(Speaker s, int x) {
            s.begins(21);
            int parted = super.parts(s, x);
            return s.parted ? 0 : parted + leans(s, 1);
        }
    }

    private static class Leaning extends Stander {
        int spending(Row row, int i) {
            return super.spending(row, i) - row.m[i] / 2;
        }

        int leans(Speaker s, int x) {
            s.begins(30);
            return 0 - super.leans(s, x);
        }
    }

    private static final class Ticklish extends Stander {
        int biting(int m) {
            return super.biting(m) + 3 * m;
        }

        int sways(Speaker s, int x) {
            s.begins(40);
            return super.sways(s, x / 2);
        }
    }

    private static final class Proud extends Asleep {
        int spending(Row row, int i) {
            return super.spending(row, i) + row.m[i] % 3;
        }

        int biting(int m) {
            return super.biting(m) + 2;
        }

        int holds(Speaker s, int x) {
            s.begins(50);
            return super.holds(s, x) * 3;
        }

        int sways(Speaker s, int x) {
            s.begins(51);
            return super.sways(s, x) ^ s.k;
        }
    }

    private static final class Twin extends Leaning {
        int biting(int m) {
            return 2 * super.biting(m);
        }

        int leans(Speaker s, int x) {
            s.begins(60);
            return super.leans(s, x + 1);
        }
    }

    private static final class Told extends Stander {
        int spending(Row row, int i) {
            Law law = row.spending;
            return law.isMissing() ? super.spending(row, i) : law.gives(row.sun, row.left[i], row.m[i]);
        }

        int holds(Speaker s, int x) {
            s.begins(70);
            return 9;
        }

        int leans(Speaker s, int x) {
            s.begins(71);
            return super.leans(s, x) + s.m;
        }
    }
}
