/** A wall of posts, who sleeps on it, and what a thief has of it. The promises stand in DOC.md. */
public final class WatchSleep {
    public static final int NONE = -1, BAD = -2, NO = -3, FULL = -4;

    private static final int BAD_OF_NIGHTS = -10, NO_SUCH_NIGHT = -5, FAULT_OF_WALL = -10;
    private static final int MOST_POSTS = 9, NIGHT_HOURS = 12, MOST_SIGHTS = 12;
    private static final int MOST_RULE = 40, MOST_TEXT = 200, MOST_TRIED = 40;
    private static final int MOST_HOUR = 999, MOST_SEED = 999999, MOST_STEP = 9, MOST_LADDER = 9;
    private static final int MOST_PAY = 99, TENTHS = 10, IMAGES = 2;

    // The rows of numbers that each POST has; put() and THE WALL name the first three so.
    private static final int WORTH = 0, SHARE = 1, NEED = 2, THEFTS = 3, TRIED = 4, ROWS = 5;
    private static final int[] AT_FIRST = {10, 1, 0, 0, 0};
    private static final int[] MOST = {99, 99, 12, 40, 40};

    private static final int LOT = 0, ROUND = 1, RULED = 2, SHOWN = 3, LAZY = 4;

    private final Watch watch = new Watch();
    private final Watch[] images = new Watch[IMAGES];
    private final boolean[] kept = new boolean[IMAGES];
    private final WallText text = new WallText();
    private final Captain leader = new Captain();
    private final Balance balance = new Balance();
    private final Thieves thieves = new Thieves();
    private final Fraction fraction = new Fraction();
    private final int[] refused = new int[3];

    public WatchSleep() {
        for (int i = 0; i < IMAGES; i++) {
            images[i] = new Watch();
        }
    }

    // ---- a wall

    public int posts(int n) {
        if (n < 1 || n > MOST_POSTS) {
            return refuse(BAD);
        }
        int was = watch.n;
        watch.layOut(n);
        return was;
    }

    public int put(int post, int what, int v) {
        if (!isPost(post) || what < WORTH || what > NEED || v < 0 || v > MOST[what]) {
            return refuse(BAD);
        }
        int was = watch.rows[what][post];
        watch.rows[what][post] = v;
        return was;
    }

    public int captain(int kind, int start, int step, int seed) {
        boolean known = kind >= LOT && kind <= LAZY && isPost(start);
        if (!known || step < 0 || step > MOST_STEP || seed < 0 || seed > MOST_SEED) {
            return refuse(BAD);
        }
        watch.kind = kind;
        watch.start = start;
        watch.step = step;
        watch.seed = seed;
        return 1;
    }

    public int type(long v, int n) {
        if (n < 1 || n > 8) {
            return refuse(BAD);
        }
        if (text.length + n > MOST_TEXT) {
            return refuse(FULL);
        }
        for (int i = n - 1; i >= 0; i--) {
            text.add((int) (v >> (8 * i)) & 255);
        }
        return text.length;
    }

    public int clear() {
        int had = text.length;
        text.length = 0;
        return had;
    }

    public int read() {
        int place = text.parse();
        if (place != NONE) {
            return FAULT_OF_WALL - place;
        }
        watch.takeWall(text.draft);
        return watch.n;
    }

    public int write(int character) {
        if (character < 0 || character > 127) {
            return refuse(BAD);
        }
        if (watch.signs >= MOST_RULE) {
            return refuse(FULL);
        }
        watch.rule[watch.signs] = character;
        watch.signs++;
        return watch.signs;
    }

    public int erase() {
        int had = watch.signs;
        watch.signs = 0;
        return had;
    }

    public int fault() {
        leader.rule.compile(watch.rule, watch.signs);
        return leader.rule.flaw;
    }

    public int asleep(int hour, int what) {
        if (hour < 0 || hour > MOST_HOUR || what < 0 || what > 1) {
            return refuse(BAD);
        }
        int who = leader.sleeper(watch, hour);
        if (who == NO) {
            return refuse(NO);
        }
        return what == 0 ? who : leader.lantern(watch, who);
    }

    // ---- thieves

    public int has(int post) {
        if (!isPost(post)) {
            return refuse(BAD);
        }
        int whole = watch.whole();
        if (whole == 0) {
            return refuse(NO);
        }
        fraction.set(watch.weight(post), whole);
        return 1;
    }

    public int tries() {
        return watch.whole() == 0 ? refuse(NO) : watch.heaviest();
    }

    public int two() {
        int whole = watch.whole();
        if (whole == 0 || watch.n < 2) {
            return refuse(NO);
        }
        int pair = watch.heaviestPair();
        fraction.set(watch.weight(pair / 10) + watch.weight(pair % 10), whole);
        return pair;
    }

    public int ladder(int l) {
        if (l < 1 || l > MOST_LADDER) {
            return refuse(BAD);
        }
        if (watch.whole() == 0) {
            return refuse(NO);
        }
        thieves.climb(fraction, watch, l);
        return 1;
    }

    public int knows() {
        int whole = watch.whole();
        if (whole == 0) {
            return refuse(NO);
        }
        int all = 0;
        for (int p = 0; p < watch.n; p++) {
            all += watch.weight(p);
        }
        fraction.set(all - watch.weight(watch.heaviest()), whole);
        return 1;
    }

    public int best(int a) {
        if (a < 1 || a > watch.n) {
            return refuse(BAD);
        }
        balance.solve(watch, a);
        fraction.set(balance.above, balance.below);
        return 1;
    }

    public int chance(int a, int post) {
        if (a < 1 || a > watch.n || !isPost(post)) {
            return refuse(BAD);
        }
        balance.chanceOf(fraction, watch, a, post);
        return 1;
    }

    public int duke(int pay) {
        if (pay < 0 || pay > MOST_PAY) {
            return refuse(BAD);
        }
        return balance.cheapest(watch, pay);
    }

    public int creak(int posts, int u, int v) {
        boolean known = posts >= 0 && posts < 1 << watch.n;
        if (!known || u < 0 || u > TENTHS || v < 0 || v > TENTHS) {
            return refuse(BAD);
        }
        int those = 0;
        for (int p = 0; p < watch.n; p++) {
            if ((posts >> p & 1) == 1) {
                those += watch.rows[SHARE][p];
            }
        }
        int rightly = those * u;
        int heard = rightly + (watch.whole() - those) * v;
        // No SHARES at all make this 0 too.
        if (heard == 0) {
            return refuse(NO);
        }
        fraction.set(rightly, heard);
        return 1;
    }

    // ---- nights

    public long nights() {
        int idle = Nights.idleHours(watch);
        return idle < 0 ? refuse(NO) : Nights.ways(Nights.sleepers(watch), idle);
    }

    public int night(long i, int hour) {
        if (i < 0 || hour < 0 || hour >= NIGHT_HOURS) {
            refuse(BAD);
            return BAD_OF_NIGHTS;
        }
        int idle = Nights.idleHours(watch);
        if (idle < 0) {
            return refuse(NO);
        }
        if (i >= Nights.ways(Nights.sleepers(watch), idle)) {
            return NO_SUCH_NIGHT;
        }
        return Nights.sleeper(watch, i, hour);
    }

    public int tell(int post) {
        if (post != NONE && !isPost(post)) {
            refuse(BAD);
            return BAD_OF_NIGHTS;
        }
        if (watch.hours >= NIGHT_HOURS) {
            return refuse(FULL);
        }
        watch.told[watch.hours] = post;
        watch.hours++;
        return watch.hours;
    }

    public int forget() {
        int had = watch.hours;
        watch.hours = 0;
        return had;
    }

    public int judge() {
        return Nights.firstUnlawful(watch);
    }

    // ---- what was seen

    public int sight(int hour, int post, int asleep) {
        if (hour < 0 || hour > MOST_HOUR || !isPost(post) || asleep < 0 || asleep > 1) {
            return refuse(BAD);
        }
        int number = watch.sights;
        if (number >= MOST_SIGHTS) {
            return refuse(FULL);
        }
        watch.sightHour[number] = hour;
        watch.sightPost[number] = post;
        watch.sightAsleep[number] = asleep;
        watch.sights = number + 1;
        return number;
    }

    public int blind() {
        int had = watch.sights;
        watch.sights = 0;
        return had;
    }

    public int rounds(int what) {
        if (what < 0 || what > 1) {
            return refuse(BAD);
        }
        return what == 0 ? Sights.agreeing(watch) : Sights.firstAgreeing(watch);
    }

    public int soon(int post) {
        return isPost(post) ? Sights.firstHourOfOne(watch, post) : refuse(BAD);
    }

    public int thefts(int post, int done, int tried) {
        if (!isPost(post) || done < 0 || done > tried || tried > MOST_TRIED) {
            return refuse(BAD);
        }
        watch.rows[THEFTS][post] = done;
        watch.rows[TRIED][post] = tried;
        return 1;
    }

    public int doubt(int post) {
        if (!isPost(post)) {
            return refuse(BAD);
        }
        if (watch.whole() == 0) {
            return refuse(NO);
        }
        thieves.doubtOf(fraction, watch, post);
        return 1;
    }

    public int spy() {
        if (watch.whole() == 0) {
            return refuse(NO);
        }
        int post = thieves.mostDoubted(watch);
        thieves.doubtOf(fraction, watch, post);
        return post;
    }

    // ---- what there is

    public int sign(int what) {
        switch (what) {
            case 0:
                return fraction.above.size > 0 ? 1 : 0;
            case 1:
                return fraction.above.size;
            case 2:
                return fraction.below.size;
            default:
                return refuse(BAD);
        }
    }

    public int limb(int which, int i) {
        if (which < 0 || which > 1 || i < 0) {
            return refuse(BAD);
        }
        Natural side = which == 0 ? fraction.above : fraction.below;
        return i < side.size ? side.limb[i] : NONE;
    }

    public int image(int i) {
        if (i < 0 || i >= IMAGES) {
            return refuse(BAD);
        }
        images[i].copy(watch);
        kept[i] = true;
        return 1;
    }

    public int from(int i) {
        if (i < 0 || i >= IMAGES) {
            return refuse(BAD);
        }
        if (!kept[i]) {
            return refuse(NO);
        }
        watch.copy(images[i]);
        return 1;
    }

    public int status(int what) {
        if (what < 0 || what >= refused.length) {
            refuse(BAD);
            return -1;
        }
        return refused[what];
    }

    public int count(int what) {
        return what < 0 || what > 4 ? refuse(BAD) : howMany(what);
    }

    public long digest() {
        long h = 739;
        for (int what = 0; what <= 4; what++) {
            h = 31 * h + howMany(what);
        }
        h = watch.mix(h);
        h = 31 * h + (fraction.above.size > 0 ? 1 : 0);
        h = 31 * h + fraction.above.size;
        h = 31 * h + fraction.below.size;
        h = Watch.mixAll(h, fraction.above.limb, fraction.above.size);
        return Watch.mixAll(h, fraction.below.limb, fraction.below.size);
    }

    private int howMany(int what) {
        switch (what) {
            case 0:
                return watch.n;
            case 1:
                return watch.sights;
            case 2:
                return watch.hours;
            case 3:
                return text.length;
            default:
                return watch.signs;
        }
    }

    private boolean isPost(int post) {
        return post >= 0 && post < watch.n;
    }

    /** BAD, NO, FULL are -2, -3, -4, and are counted in this order. */
    private int refuse(int why) {
        int which = BAD - why;
        if (which >= 0 && which < refused.length) {
            refused[which]++;
        }
        return why;
    }

    /** All that an IMAGE keeps. */
    private static final class Watch {
        int n;
        final int[][] rows = new int[ROWS][MOST_POSTS];
        int kind;
        int start;
        int step;
        int seed;
        final int[] sightHour = new int[MOST_SIGHTS];
        final int[] sightPost = new int[MOST_SIGHTS];
        final int[] sightAsleep = new int[MOST_SIGHTS];
        int sights;
        final int[] told = new int[NIGHT_HOURS];
        int hours;
        final int[] rule = new int[MOST_RULE];
        int signs;

        Watch() {
            layOut(MOST_POSTS);
        }

        /** New POSTS, of which nothing is told yet. */
        void layOut(int posts) {
            n = posts;
            for (int row = 0; row < ROWS; row++) {
                for (int p = 0; p < MOST_POSTS; p++) {
                    rows[row][p] = AT_FIRST[row];
                }
            }
            start = 0;
            sights = 0;
            hours = 0;
        }

        void takeWall(Watch draft) {
            layOut(draft.n);
            copyRows(draft);
        }

        void copy(Watch other) {
            n = other.n;
            copyRows(other);
            kind = other.kind;
            start = other.start;
            step = other.step;
            seed = other.seed;
            sights = other.sights;
            System.arraycopy(other.sightHour, 0, sightHour, 0, MOST_SIGHTS);
            System.arraycopy(other.sightPost, 0, sightPost, 0, MOST_SIGHTS);
            System.arraycopy(other.sightAsleep, 0, sightAsleep, 0, MOST_SIGHTS);
            hours = other.hours;
            System.arraycopy(other.told, 0, told, 0, NIGHT_HOURS);
            signs = other.signs;
            System.arraycopy(other.rule, 0, rule, 0, MOST_RULE);
        }

        private void copyRows(Watch other) {
            for (int row = 0; row < ROWS; row++) {
                System.arraycopy(other.rows[row], 0, rows[row], 0, MOST_POSTS);
            }
        }

        int whole() {
            int sum = 0;
            for (int p = 0; p < n; p++) {
                sum += rows[SHARE][p];
            }
            return sum;
        }

        /** HAS times WHOLE. */
        int weight(int post) {
            return rows[SHARE][post] * rows[WORTH][post];
        }

        int heaviest() {
            int most = 0;
            for (int p = 1; p < n; p++) {
                if (weight(p) > weight(most)) {
                    most = p;
                }
            }
            return most;
        }

        /** 10 times the lesser POST, and the other one. */
        int heaviestPair() {
            int pair = 1;
            int most = -1;
            for (int p = 0; p < n; p++) {
                for (int other = p + 1; other < n; other++) {
                    int both = weight(p) + weight(other);
                    if (both > most) {
                        most = both;
                        pair = 10 * p + other;
                    }
                }
            }
            return pair;
        }

        long mix(long h) {
            long mixed = h;
            for (int p = 0; p < n; p++) {
                for (int row = 0; row < ROWS; row++) {
                    mixed = 31 * mixed + rows[row][p];
                }
            }
            mixed = 31 * mixed + kind;
            mixed = 31 * mixed + start;
            mixed = 31 * mixed + step;
            mixed = 31 * mixed + seed;
            for (int i = 0; i < sights; i++) {
                mixed = 31 * mixed + sightHour[i];
                mixed = 31 * mixed + sightPost[i];
                mixed = 31 * mixed + sightAsleep[i];
            }
            mixed = mixAll(mixed, told, hours);
            return mixAll(mixed, rule, signs);
        }

        static long mixAll(long h, int[] values, int many) {
            long mixed = h;
            for (int i = 0; i < many; i++) {
                mixed = 31 * mixed + values[i];
            }
            return mixed;
        }
    }

    /** Who sleeps by THE CAPTAIN that a Watch tells. */
    private static final class Captain {
        private static final int UNIT_OF_DRAWS = 65536;

        final Rule rule = new Rule();

        /** A POST, or NO. */
        int sleeper(Watch w, int hour) {
            switch (w.kind) {
                case ROUND:
                    return inTurn(w, hour);
                case RULED:
                    return byRule(w, hour);
                case LAZY:
                    return inTurn(w, hour - hour % 2);
                default:
                    return byLot(w, hour);
            }
        }

        int lantern(Watch w, int who) {
            if (w.kind != SHOWN) {
                return who;
            }
            return who + 1 < w.n ? who + 1 : 0;
        }

        static int inTurn(Watch w, int hour) {
            return turn(w.n, w.start, w.step, hour);
        }

        static int turn(int n, int start, int step, int hour) {
            return n < 1 ? 0 : (start + hour * step) % n;
        }

        private static int byLot(Watch w, int hour) {
            int whole = w.whole();
            if (whole < 1) {
                return NO;
            }
            long drawn = drawnAt(w, hour) / UNIT_OF_DRAWS % whole;
            int sum = 0;
            for (int p = 0; p < w.n; p++) {
                sum += w.rows[SHARE][p];
                if (sum > drawn) {
                    return p;
                }
            }
            return NO;
        }

        private int byRule(Watch w, int hour) {
            rule.compile(w.rule, w.signs);
            if (rule.flaw != NONE || w.n < 1) {
                return NO;
            }
            // Only a rule that asks who slept ahead needs the hours ahead worked.
            int from = rule.looksBack ? 0 : hour;
            long x = from == 0 ? w.seed : drawnAt(w, from - 1);
            int who = w.start;
            for (int h = from; h <= hour; h++) {
                x = nextDraw(x);
                long told = rule.work(w, h, who, x / UNIT_OF_DRAWS) % w.n;
                who = (int) (told < 0 ? told + w.n : told);
            }
            return who;
        }

        private static long drawnAt(Watch w, int hour) {
            long x = w.seed;
            for (int h = 0; h <= hour; h++) {
                x = nextDraw(x);
            }
            return x;
        }

        private static long nextDraw(long x) {
            return (x * 1103515245L + 12345L) % 2147483648L;
        }
    }

    /**
     * THE RULE, as a row of steps on a stack: a number from 0 on is put there,
     * a sign of the text, made negative, is a name or does something to the topmost ones.
     */
    private static final class Rule {
        private static final int CAN_NOT_STAND = 1, TOO_MANY_DIGITS = 2, TOO_DEEP = 3;
        private static final int MOST_DIGITS = 6, MOST_OPEN = 8;
        private static final char MINUS_OF_ONE = '~';
        private static final int RANK_OF_ONE = 6, RANK_OF_COMPARING = 3;

        int flaw = NONE;
        boolean looksBack;
        private final int[] steps = new int[MOST_RULE];
        private int size;
        private final int[] waiting = new int[MOST_RULE];
        private int waits;
        private int open;
        private boolean unitIsDue;
        private final long[] stack = new long[MOST_RULE];

        void compile(int[] signs, int length) {
            flaw = NONE;
            looksBack = false;
            size = 0;
            waits = 0;
            open = 0;
            unitIsDue = true;
            int at = 0;
            for (int k = 0; k < length && at < length && flaw == NONE; k++) {
                if (signs[at] == ' ') {
                    at++;
                } else if (unitIsDue && isDigit(signs[at])) {
                    at = takeDigits(signs, length, at);
                } else if (unitIsDue) {
                    takeBeginning(signs[at], at);
                    at++;
                } else {
                    takeBehind(signs[at], at);
                    at++;
                }
            }
            if (flaw == NONE && (unitIsDue || open > 0)) {
                flaw = 10 * length + CAN_NOT_STAND;
            }
            release(1);
        }

        /** The place behind the digits. */
        private int takeDigits(int[] signs, int length, int at) {
            int end = at;
            int value = 0;
            while (end < length && isDigit(signs[end])) {
                if (end - at < MOST_DIGITS) {
                    value = 10 * value + signs[end] - '0';
                }
                end++;
            }
            if (end - at > MOST_DIGITS) {
                flaw = 10 * at + TOO_MANY_DIGITS;
            } else {
                emit(value);
                unitIsDue = false;
            }
            return end;
        }

        private void takeBeginning(int sign, int at) {
            if (sign == '(' && open == MOST_OPEN) {
                flaw = 10 * at + TOO_DEEP;
            } else if (sign == '(') {
                hold(sign);
                open++;
            } else if (sign == '!') {
                hold(sign);
            } else if (sign == '-') {
                hold(MINUS_OF_ONE);
            } else if (isName(sign)) {
                emit(-sign);
                looksBack = looksBack || sign == 'l';
                unitIsDue = false;
            } else {
                flaw = 10 * at + CAN_NOT_STAND;
            }
        }

        private void takeBehind(int sign, int at) {
            int rank = rankOf(sign);
            if (sign == ')' && open > 0) {
                release(1);
                waits = Math.max(0, waits - 1);
                open--;
            } else if (rank < 1 || rank == RANK_OF_ONE) {
                flaw = 10 * at + CAN_NOT_STAND;
            } else if (rank == RANK_OF_COMPARING) {
                release(rank + 1);
                // A comparison is not compared again, unless it stands in brackets.
                if (waits > 0 && rankOf(waiting[waits - 1]) == rank) {
                    flaw = 10 * at + CAN_NOT_STAND;
                }
                hold(sign);
                unitIsDue = true;
            } else {
                release(rank);
                hold(sign);
                unitIsDue = true;
            }
        }

        /** What waits on top and binds so firmly at least is due now. */
        private void release(int rank) {
            while (waits > 0 && rankOf(waiting[waits - 1]) >= rank) {
                waits--;
                emit(-waiting[waits]);
            }
        }

        private void hold(int sign) {
            if (waits < waiting.length) {
                waiting[waits] = sign;
                waits++;
            }
        }

        private void emit(int step) {
            if (size < steps.length) {
                steps[size] = step;
                size++;
            }
        }

        private static boolean isDigit(int sign) {
            return sign >= '0' && sign <= '9';
        }

        private static boolean isName(int sign) {
            switch (sign) {
                case 'h':
                case 'n':
                case 's':
                case 't':
                case 'l':
                case 'x':
                    return true;
                default:
                    return false;
            }
        }

        /** 0: no sign that stands between or ahead of UNITS; an open bracket is of rank 0, so that all stop at it. */
        private static int rankOf(int sign) {
            switch (sign) {
                case '|':
                    return 1;
                case '&':
                    return 2;
                case '<':
                case '>':
                case '=':
                    return RANK_OF_COMPARING;
                case '+':
                case '-':
                    return 4;
                case '*':
                case '/':
                    return 5;
                case '!':
                case MINUS_OF_ONE:
                    return RANK_OF_ONE;
                default:
                    return 0;
            }
        }

        long work(Watch w, int hour, int last, long x) {
            int depth = 0;
            for (int i = 0; i < size; i++) {
                int step = steps[i];
                if (step >= 0 || isName(-step)) {
                    if (depth < stack.length) {
                        stack[depth] = step >= 0 ? step : named(-step, w, hour, last, x);
                        depth++;
                    }
                } else if (rankOf(-step) == RANK_OF_ONE) {
                    if (depth > 0) {
                        stack[depth - 1] = ofOne(-step, stack[depth - 1]);
                    }
                } else if (depth > 1) {
                    depth--;
                    stack[depth - 1] = ofTwo(-step, stack[depth - 1], stack[depth]);
                }
            }
            return depth > 0 ? stack[depth - 1] : 0;
        }

        private static long named(int name, Watch w, int hour, int last, long x) {
            switch (name) {
                case 'h':
                    return hour;
                case 'n':
                    return w.n;
                case 's':
                    return w.start;
                case 't':
                    return w.step;
                case 'l':
                    return last;
                default:
                    return x;
            }
        }

        private static long ofOne(int sign, long a) {
            return sign == '!' ? truth(a == 0) : -a;
        }

        private static long ofTwo(int sign, long a, long b) {
            switch (sign) {
                case '|':
                    return truth(a != 0 || b != 0);
                case '&':
                    return truth(a != 0 && b != 0);
                case '<':
                    return truth(a < b);
                case '>':
                    return truth(a > b);
                case '=':
                    return truth(a == b);
                case '+':
                    return a + b;
                case '-':
                    return a - b;
                case '*':
                    return a * b;
                default:
                    return b == 0 ? 0 : a / b;
            }
        }

        private static long truth(boolean so) {
            return so ? 1 : 0;
        }
    }

    /** THE TEXT, and how THE WALL is read from it into a draft. */
    private static final class WallText {
        private static final int END = 0, WORD = 1, NUMBER = 2, SEMICOLON = 3, NOTHING = 4;

        final Watch draft = new Watch();
        int length;
        private final int[] bytes = new int[MOST_TEXT];
        private int at;
        private int token;
        private int place;
        private int value;

        void add(int b) {
            if (length < bytes.length) {
                bytes[length] = b;
                length++;
            }
        }

        /** NONE, or the FAULT. */
        int parse() {
            at = 0;
            advance();
            if (!isWord("posts") || !numberComes(1, MOST_POSTS)) {
                return place;
            }
            draft.layOut(value);
            if (!semicolonComes()) {
                return place;
            }
            advance();
            for (int items = 0; items < MOST_TEXT && token != END; items++) {
                if (!itemEnds()) {
                    return place;
                }
                advance();
            }
            return NONE;
        }

        private boolean itemEnds() {
            int row = rowOfWord();
            if (row == NONE || !numberComes(0, draft.n - 1)) {
                return false;
            }
            int post = value;
            if (!numberComes(0, MOST[row])) {
                return false;
            }
            draft.rows[row][post] = value;
            return semicolonComes();
        }

        private int rowOfWord() {
            if (isWord("worth")) {
                return WORTH;
            }
            if (isWord("share")) {
                return SHARE;
            }
            return isWord("need") ? NEED : NONE;
        }

        private boolean isWord(String word) {
            if (token != WORD || at - place != word.length()) {
                return false;
            }
            for (int i = 0; i < word.length(); i++) {
                if (bytes[place + i] != word.charAt(i)) {
                    return false;
                }
            }
            return true;
        }

        private boolean numberComes(int least, int most) {
            advance();
            return token == NUMBER && value >= least && value <= most;
        }

        private boolean semicolonComes() {
            advance();
            return token == SEMICOLON;
        }

        private void advance() {
            while (at < length && bytes[at] == ' ') {
                at++;
            }
            place = at;
            if (at >= length) {
                token = END;
            } else if (isLetter(bytes[at])) {
                token = WORD;
                while (at < length && isLetter(bytes[at])) {
                    at++;
                }
            } else if (isFigure(bytes[at])) {
                takeFigures();
            } else {
                token = bytes[at] == ';' ? SEMICOLON : NOTHING;
                at++;
            }
        }

        private void takeFigures() {
            value = 0;
            while (at < length && isFigure(bytes[at])) {
                if (at - place < 2) {
                    value = 10 * value + bytes[at] - '0';
                }
                at++;
            }
            token = at - place > 2 ? NOTHING : NUMBER;
        }

        private static boolean isLetter(int b) {
            return b >= 'a' && b <= 'z';
        }

        private static boolean isFigure(int b) {
            return b >= '0' && b <= '9';
        }
    }

    /** BEST, as above by below. All stays below 2 to the 63: 9 times 99 to the 9th does. */
    private static final class Balance {
        long above;
        long below = 1;
        private final int[] worths = new int[MOST_POSTS];
        private int many;

        void solve(Watch w, int asleep) {
            sortWorths(w);
            int left = asleep - (w.n - many);
            above = 0;
            below = 1;
            // The least worths come to a chance of 1 first: as soon as the next one does not, the rest is shared.
            for (int sure = 0; sure < left && sure < many; sure++) {
                share(left - sure, sure);
                if (above <= worths[sure] * below) {
                    break;
                }
            }
            long common = Fraction.commonDivisor(above, below);
            if (common > 1) {
                above /= common;
                below /= common;
            }
        }

        /** WORTHS above 0, rising. */
        private void sortWorths(Watch w) {
            many = 0;
            for (int p = 0; p < w.n; p++) {
                int worth = w.rows[WORTH][p];
                if (worth > 0) {
                    int i = many;
                    while (i > 0 && worths[i - 1] > worth) {
                        worths[i] = worths[i - 1];
                        i--;
                    }
                    worths[i] = worth;
                    many++;
                }
            }
        }

        /** The value by which those from first on have so much chance together. */
        private void share(int chances, int first) {
            long product = 1;
            long sum = 0;
            for (int i = first; i < many; i++) {
                sum = sum * worths[i] + product;
                product *= worths[i];
            }
            if (sum < 1) {
                return;
            }
            above = chances * product;
            below = sum;
        }

        void chanceOf(Fraction f, Watch w, int asleep, int post) {
            solve(w, asleep);
            int worth = w.rows[WORTH][post];
            int worthless = w.n - many;
            if (worthless >= asleep) {
                f.set(worth == 0 ? asleep : 0, worthless);
            } else if (worth == 0 || above >= worth * below) {
                f.set(1, 1);
            } else {
                f.set(above, worth * below);
            }
        }

        int cheapest(Watch w, int pay) {
            int least = 1;
            long units = 0;
            long rest = 0;
            long parts = 1;
            for (int a = 1; a <= w.n; a++) {
                solve(w, a);
                if (below < 1) {
                    return least;
                }
                long unitsNow = above / below + pay * (w.n - a);
                long restNow = above % below;
                boolean less = unitsNow < units || unitsNow == units && isLess(restNow, below, rest, parts);
                if (a == 1 || less) {
                    least = a;
                    units = unitsNow;
                    rest = restNow;
                    parts = below;
                }
            }
            return least;
        }

        /** Whether a by b is less than c by d: products may be too large, so whole parts are compared in turn. */
        private static boolean isLess(long a, long b, long c, long d) {
            long a1 = a;
            long b1 = b;
            long c1 = c;
            long d1 = d;
            for (int k = 0; k < 200 && b1 > 0 && d1 > 0; k++) {
                if (a1 / b1 != c1 / d1) {
                    return a1 / b1 < c1 / d1;
                }
                long restA = a1 % b1;
                long restC = c1 % d1;
                if (restA == 0 || restC == 0) {
                    return restC > 0;
                }
                // Of two fractions the less one has the greater inverse.
                a1 = d1;
                c1 = b1;
                b1 = restC;
                d1 = restA;
            }
            return false;
        }
    }

    /** What a thief has by powers of SHARES, too large for longs. */
    private static final class Thieves {
        private final Natural sum = new Natural();
        private final Natural term = new Natural();
        private final Natural least = new Natural();

        void climb(Fraction f, Watch w, int hours) {
            sum.set(0);
            for (int p = 0; p < w.n; p++) {
                term.setPower(w.rows[SHARE][p], hours);
                term.times(w.rows[WORTH][p]);
                if (sum.isLess(term)) {
                    sum.copy(term);
                }
            }
            f.setOverPower(sum, w.whole(), hours);
        }

        void doubtOf(Fraction f, Watch w, int post) {
            int share = w.rows[SHARE][post];
            int whole = w.whole();
            // Lower terms at once spare many divisions by the same primes.
            int common = (int) Fraction.commonDivisor(share, whole);
            if (common > 1) {
                share /= common;
                whole /= common;
            }
            int tried = w.rows[TRIED][post];
            addChances(share, whole, w.rows[THEFTS][post], tried);
            f.setOverPower(sum, whole, tried);
        }

        int mostDoubted(Watch w) {
            int whole = w.whole();
            int post = 0;
            for (int p = 0; p < w.n; p++) {
                int tried = w.rows[TRIED][p];
                addChances(w.rows[SHARE][p], whole, w.rows[THEFTS][p], tried);
                // All over the same power of WHOLE can be compared.
                for (int k = tried; k < MOST_TRIED; k++) {
                    sum.times(whole);
                }
                if (p == 0 || sum.isLess(least)) {
                    least.copy(sum);
                    post = p;
                }
            }
            return post;
        }

        /** In sum: the chance of done or more of tried, times whole to the power of tried. */
        private void addChances(int share, int whole, int done, int tried) {
            if (done == 0) {
                sum.setPower(whole, tried);
                return;
            }
            sum.set(0);
            if (share == 0) {
                return;
            }
            term.setPower(share, tried);
            for (int k = tried; k >= done; k--) {
                sum.add(term);
                // From the ways of k to those of k less 1; the division leaves nothing over.
                term.times(k * (whole - share));
                term.divide((tried - k + 1) * share);
            }
        }
    }

    /** A number from 0 on; limbs from the lowest on, the highest is not 0. */
    private static final class Natural {
        private static final int BITS = 30;
        private static final long LOWEST = (1L << BITS) - 1;
        // 891 to the 40th times 40 times 891 has 14.
        private static final int LIMBS = 16;

        final int[] limb = new int[LIMBS];
        int size;

        void set(long v) {
            size = 0;
            append(v);
        }

        void setPower(int base, int power) {
            set(1);
            for (int k = 0; k < power; k++) {
                times(base);
            }
        }

        void copy(Natural other) {
            size = other.size;
            System.arraycopy(other.limb, 0, limb, 0, LIMBS);
        }

        void times(int m) {
            long carry = 0;
            for (int i = 0; i < size; i++) {
                carry += (long) limb[i] * m;
                limb[i] = (int) (carry & LOWEST);
                carry >>= BITS;
            }
            append(carry);
            trim();
        }

        void add(Natural other) {
            long carry = 0;
            int most = Math.max(size, other.size);
            for (int i = 0; i < most; i++) {
                carry += i < size ? limb[i] : 0;
                carry += i < other.size ? other.limb[i] : 0;
                limb[i] = (int) (carry & LOWEST);
                carry >>= BITS;
            }
            size = most;
            append(carry);
        }

        void divide(int d) {
            if (d < 1) {
                return;
            }
            long rest = 0;
            for (int i = size - 1; i >= 0; i--) {
                rest = (rest << BITS) + limb[i];
                limb[i] = (int) (rest / d);
                rest %= d;
            }
            trim();
        }

        boolean isMultipleOf(int d) {
            if (d < 1) {
                return false;
            }
            long rest = 0;
            for (int i = size - 1; i >= 0; i--) {
                rest = ((rest << BITS) + limb[i]) % d;
            }
            return rest == 0;
        }

        boolean isLess(Natural other) {
            if (size != other.size) {
                return size < other.size;
            }
            for (int i = size - 1; i >= 0; i--) {
                if (limb[i] != other.limb[i]) {
                    return limb[i] < other.limb[i];
                }
            }
            return false;
        }

        private void append(long carry) {
            long rest = carry;
            while (rest > 0 && size < LIMBS) {
                limb[size] = (int) (rest & LOWEST);
                size++;
                rest >>= BITS;
            }
        }

        private void trim() {
            while (size > 0 && limb[size - 1] == 0) {
                size--;
            }
        }
    }

    /** THE FRACTION, in lowest terms. */
    private static final class Fraction {
        private static final int MOST_CANCELLED = 30 * 16;

        final Natural above = new Natural();
        final Natural below = new Natural();

        Fraction() {
            below.set(1);
        }

        void set(long a, long b) {
            long common = commonDivisor(a, b);
            if (common < 1) {
                return;
            }
            above.set(a / common);
            below.set(b / common);
        }

        void setOverPower(Natural a, int base, int power) {
            if (a.size == 0) {
                set(0, 1);
                return;
            }
            above.copy(a);
            below.setPower(base, power);
            // Only primes of the base can be in both.
            int rest = base;
            for (int prime = 2; prime <= rest; prime++) {
                if (rest % prime == 0) {
                    cancel(prime);
                }
                while (rest > 1 && rest % prime == 0) {
                    rest /= prime;
                }
            }
        }

        private void cancel(int prime) {
            for (int k = 0; k < MOST_CANCELLED; k++) {
                if (!above.isMultipleOf(prime) || !below.isMultipleOf(prime)) {
                    return;
                }
                above.divide(prime);
                below.divide(prime);
            }
        }

        /** 1 at least, unless both are 0; numbers below 2 to the 63 need fewer steps than the bound. */
        static long commonDivisor(long a, long b) {
            long one = a;
            long other = b;
            for (int k = 0; k < 100 && other != 0; k++) {
                long rest = one % other;
                one = other;
                other = rest;
            }
            return one;
        }
    }

    /** LAWFUL nights: stretches of sleep in any order, hours of nobody between them. */
    private static final class Nights {
        /** Hours in which nobody sleeps; below 0, if no night is LAWFUL. */
        static int idleHours(Watch w) {
            int idle = NIGHT_HOURS;
            for (int p = 0; p < w.n; p++) {
                idle -= w.rows[NEED][p];
            }
            return idle;
        }

        static int sleepers(Watch w) {
            int many = 0;
            for (int p = 0; p < w.n; p++) {
                if (w.rows[NEED][p] > 0) {
                    many++;
                }
            }
            return many;
        }

        /** The stretches are unlike one another, the hours of nobody are not. */
        static long ways(int stretches, int idle) {
            long ways = 1;
            for (int k = 1; k <= stretches; k++) {
                ways *= idle + k;
            }
            return ways;
        }

        static int sleeper(Watch w, long i, int hour) {
            int idle = idleHours(w);
            int stretches = sleepers(w);
            int slept = 0;
            long left = i;
            int next = 0;
            int who = NONE;
            for (int k = 0; k < NIGHT_HOURS && next <= hour; k++) {
                long ofNobody = idle > 0 ? ways(stretches, idle - 1) : 0;
                if (left < ofNobody) {
                    who = NONE;
                    idle--;
                    next++;
                } else {
                    long ofEach = ways(stretches - 1, idle);
                    left -= ofNobody;
                    who = waitingSleeper(w, slept, ofEach < 1 ? 0 : left / ofEach);
                    left = ofEach < 1 ? 0 : left % ofEach;
                    stretches--;
                    if (who == NONE) {
                        return NONE;
                    }
                    slept |= 1 << who;
                    next += w.rows[NEED][who];
                }
            }
            return who;
        }

        /** Of those who have yet to sleep the one of a number. */
        private static int waitingSleeper(Watch w, int slept, long number) {
            long ahead = number;
            for (int p = 0; p < w.n; p++) {
                if (w.rows[NEED][p] > 0 && (slept >> p & 1) == 0) {
                    if (ahead == 0) {
                        return p;
                    }
                    ahead--;
                }
            }
            return NONE;
        }

        static int firstUnlawful(Watch w) {
            int idle = idleHours(w);
            int slept = 0;
            int sleeping = NONE;
            int more = 0;
            for (int hour = 0; hour < w.hours; hour++) {
                int who = w.told[hour];
                if (more > 0) {
                    if (who != sleeping) {
                        return hour;
                    }
                    more--;
                } else if (who < 0) {
                    idle--;
                } else if (w.rows[NEED][who] == 0 || (slept >> who & 1) == 1) {
                    return hour;
                } else {
                    sleeping = who;
                    slept |= 1 << who;
                    more = w.rows[NEED][who] - 1;
                }
                if (idle < 0) {
                    return hour;
                }
            }
            return NONE;
        }
    }

    /** Which ROUNDS agree with what was seen. */
    private static final class Sights {
        static int agreeing(Watch w) {
            int many = 0;
            for (int start = 0; start < w.n; start++) {
                for (int step = 0; step < w.n; step++) {
                    if (agrees(w, start, step)) {
                        many++;
                    }
                }
            }
            return many;
        }

        static int firstAgreeing(Watch w) {
            for (int start = 0; start < w.n; start++) {
                for (int step = 0; step < w.n; step++) {
                    if (agrees(w, start, step)) {
                        return 10 * start + step;
                    }
                }
            }
            return NONE;
        }

        private static boolean agrees(Watch w, int start, int step) {
            for (int i = 0; i < w.sights; i++) {
                boolean there = Captain.turn(w.n, start, step, w.sightHour[i]) == w.sightPost[i];
                if (there != (w.sightAsleep[i] == 1)) {
                    return false;
                }
            }
            return true;
        }

        /** The hour in which the last pair but one is told from THE CAPTAIN's. */
        static int firstHourOfOne(Watch w, int post) {
            int alike = 0;
            int latest = 0;
            for (int start = 0; start < w.n; start++) {
                for (int step = 0; step < w.n; step++) {
                    int unlike = firstUnlike(w, post, start, step);
                    if (unlike == NONE) {
                        alike++;
                    }
                    latest = Math.max(latest, unlike);
                }
            }
            return alike == 1 ? latest : NONE;
        }

        /** A ROUND is the same again after n hours, so later ones tell nothing new. */
        private static int firstUnlike(Watch w, int post, int start, int step) {
            for (int hour = 0; hour < w.n; hour++) {
                boolean there = Captain.turn(w.n, start, step, hour) == post;
                if (there != (Captain.inTurn(w, hour) == post)) {
                    return hour;
                }
            }
            return NONE;
        }
    }
}
