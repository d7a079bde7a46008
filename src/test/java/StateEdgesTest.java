import java.math.BigInteger;
import java.util.function.Consumer;
import java.util.function.Supplier;
import java.util.function.ToLongFunction;

/** What there is at first and then: POSTS made anew, THE FRACTION, IMAGES, STATUS, the order of refusals, the digest. */
public final class StateEdgesTest {
    private static final Due due = new Due("StateEdgesTest");

    public static void main(String[] args) {
        atFirst();
        postsAnew();
        postsKeep();
        putAnswers();
        captainOfFewPosts();
        badAheadOfNo();
        badAheadOfFull();
        others();
        neverRefused();
        noRefusals();
        everyQuestion();
        fractionAtFirst();
        fractionStays();
        limbs();
        images();
        imagesOfEverything();
        imagesApart();
        imagesKeepNot();
        noImage();
        status();
        counts();
        digest();
        manyCalls();
        due.end();
    }

    private static long mixed(long... values) {
        long h = 739;
        for (long v : values) {
            h = 31 * h + v;
        }
        return h;
    }

    private static void atFirst() {
        due.says("9; 9 at first), in a ring: each of a WORTH (0 .. 99; 10 at first), a SHARE (0 .. 99; 1 at first), a NEED (0 .. 12; 0"
            + " at first)");
        long[] values = new long[5 + 45 + 4 + 3 + 1];
        values[0] = 9;
        for (int p = 0; p < 9; p++) {
            values[5 + 5 * p] = 10;
            values[6 + 5 * p] = 1;
        }
        values[5 + 45 + 4 + 2] = 1;
        values[5 + 45 + 4 + 3] = 1;
        due.is("digest() at first", new WatchSleep().digest(), mixed(values));
        WatchSleep x = new WatchSleep();
        for (int what = 0; what <= 4; what++) {
            due.is("count(" + what + ") at first", x.count(what), what == 0 ? 9 : 0);
        }
        for (int what = 0; what <= 2; what++) {
            due.is("status(" + what + ") at first", x.status(what), 0);
        }
        due.is("clear() at first", x.clear(), 0);
        due.is("erase() at first", x.erase(), 0);
        due.is("forget() at first", x.forget(), 0);
        due.is("blind() at first", x.blind(), 0);
        due.is("judge() at first", x.judge(), -1);
        due.is("rounds(0) at first", x.rounds(0), 81);
        due.is("nights() at first", x.nights(), 1);
        due.is("fault() at first", x.fault(), 1);
        due.is("posts(9) at first: what n was", x.posts(9), 9);
        WatchSleep other = new WatchSleep();
        x.put(0, 0, 1);
        due.is("another object is another one", other.put(0, 0, 10), 10);
    }

    private static void postsAnew() {
        due.says("n POSTS, all as at first (THE CAPTAIN's KIND, STEP, SEED, THE RULE stay; START 0, nothing is told of NIGHTS, SIGHTS,"
            + " THEFTS): what n was. BAD.");
        for (int n = 1; n <= 9; n++) {
            for (int was = 1; was <= 9; was++) {
                WatchSleep x = Scene.rich(was);
                due.is("posts(" + n + ") of " + was, x.posts(n), was);
                for (int p = 0; p < n; p++) {
                    due.is("WORTH", x.put(p, 0, 10), 10);
                    due.is("SHARE", x.put(p, 1, 1), 1);
                    due.is("NEED", x.put(p, 2, 0), 0);
                    x.doubt(p);
                    due.is("THEFTS 0 of 0: 1 by 1", 10 * x.limb(0, 0) + x.limb(1, 0), 11);
                }
                due.is("the first POST beyond", x.put(n, 0, 10), -2);
                due.is("HOURS", x.count(2), 0);
                due.is("SIGHTS", x.count(1), 0);
                due.is("bytes of THE TEXT stay", x.count(3), 38);
                due.is("THE RULE stays", x.count(4), 5);
                // l + t * 2 in HOUR 0 by START 0, STEP 5.
                due.is("KIND and STEP stay, START is 0", x.asleep(0, 0), 10 % n);
                Due.write(x, "x");
                // 4711 * 1103515245 + 12345 left over by 2147483648, cut by 65536.
                long drawn = (4711L * 1103515245L + 12345L) % 2147483648L / 65536L;
                due.is("SEED stays", x.asleep(0, 0), drawn % n);
            }
        }
    }

    private static void postsKeep() {
        due.says("all as at first");
        WatchSleep x = Scene.rich(4);
        x.posts(4);
        due.is("the same n is made anew, too", x.put(3, 0, 1), 10);
        due.fraction("THE FRACTION stays: 4 of 10 SHARES, WORTH 29", Scene.rich(4), "58", "5");
        x = Scene.rich(4);
        x.posts(2);
        due.fraction("THE FRACTION stays", x, "58", "5");
        x.posts(9);
        due.is("a POST that was taken away comes back as at first", x.put(3, 0, 1), 10);
        WatchSleep twin = Scene.rich(4);
        x.from(0);
        twin.from(0);
        due.is("IMAGE 0 stays", x.digest(), twin.digest());
        x.from(1);
        twin.from(1);
        due.is("IMAGE 1 stays", x.digest(), twin.digest());
    }

    private static void putAnswers() {
        due.says("Of a POST: WORTH (0), SHARE (1), NEED (2): what it was. BAD.");
        int[] first = {10, 1, 0};
        int[] most = {99, 99, 12};
        for (int n = 1; n <= 9; n++) {
            for (int what = 0; what < 3; what++) {
                for (int p : new int[] {0, n - 1}) {
                    WatchSleep x = new WatchSleep();
                    x.posts(n);
                    due.is("what it was at first", x.put(p, what, most[what]), first[what]);
                    due.is("the greatest", x.put(p, what, 0), most[what]);
                    due.is("the least", x.put(p, what, first[what]), 0);
                    WatchSleep twin = new WatchSleep();
                    twin.posts(n);
                    due.is("no other number changes", x.digest(), twin.digest());
                }
            }
        }
    }

    private static void captainOfFewPosts() {
        due.says("THE CAPTAIN: 1. BAD.");
        for (int n = 1; n <= 9; n++) {
            int beyond = n;
            Scene.taken(due, "START n less 1", Scene.rich(n), x -> x.captain(4, beyond - 1, 9, 999999), 1);
            Scene.refused(due, "START n", () -> Scene.rich(beyond), x -> x.captain(0, beyond, 0, 0), -2, Scene.AS_BAD);
            // STEP may be more than there are POSTS.
            WatchSleep x = new WatchSleep();
            x.posts(n);
            x.captain(1, 0, 9, 0);
            due.is("STEP 9 of " + n, x.asleep(1, 0), 9 % n);
        }
    }

    private static void refused(String what, Supplier<WatchSleep> scene, ToLongFunction<WatchSleep> call, long answer, int why) {
        Scene.refused(due, what, scene, call, answer, why);
    }

    private static WatchSleep without(int kind) {
        WatchSleep x = Scene.shareless(4);
        x.captain(kind, 1, 1, 1);
        x.write('a');
        return x;
    }

    private static void badAheadOfNo() {
        due.says("Refused, changing nothing but STATUS, the first of: BAD -2 a number is not as told; NO -3 as told; FULL -4");
        for (int kind : new int[] {0, 2, 3}) {
            Supplier<WatchSleep> scene = () -> without(kind);
            refused("asleep: NO", scene, x -> x.asleep(999, 1), -3, Scene.AS_NO);
            refused("asleep: an HOUR too large", scene, x -> x.asleep(1000, 0), -2, Scene.AS_BAD);
            refused("asleep: an HOUR too small", scene, x -> x.asleep(-1, 0), -2, Scene.AS_BAD);
            refused("asleep: a what too large", scene, x -> x.asleep(0, 2), -2, Scene.AS_BAD);
            refused("asleep: a what too small", scene, x -> x.asleep(0, -1), -2, Scene.AS_BAD);
        }
        Supplier<WatchSleep> scene = () -> Scene.shareless(4);
        refused("has: NO", scene, x -> x.has(3), -3, Scene.AS_NO);
        refused("has: BAD", scene, x -> x.has(4), -2, Scene.AS_BAD);
        refused("has: BAD", scene, x -> x.has(-1), -2, Scene.AS_BAD);
        refused("ladder: NO", scene, x -> x.ladder(9), -3, Scene.AS_NO);
        refused("ladder: BAD", scene, x -> x.ladder(10), -2, Scene.AS_BAD);
        refused("ladder: BAD", scene, x -> x.ladder(0), -2, Scene.AS_BAD);
        refused("creak: NO", scene, x -> x.creak(15, 10, 10), -3, Scene.AS_NO);
        refused("creak: BAD", scene, x -> x.creak(16, 10, 10), -2, Scene.AS_BAD);
        refused("creak: BAD", scene, x -> x.creak(-1, 10, 10), -2, Scene.AS_BAD);
        refused("creak: BAD", scene, x -> x.creak(15, 11, 10), -2, Scene.AS_BAD);
        refused("creak: BAD", scene, x -> x.creak(15, -1, 10), -2, Scene.AS_BAD);
        refused("creak: BAD", scene, x -> x.creak(15, 10, 11), -2, Scene.AS_BAD);
        refused("creak: BAD", scene, x -> x.creak(15, 10, -1), -2, Scene.AS_BAD);
        refused("doubt: NO", scene, x -> x.doubt(3), -3, Scene.AS_NO);
        refused("doubt: BAD", scene, x -> x.doubt(4), -2, Scene.AS_BAD);
        refused("doubt: BAD", scene, x -> x.doubt(-1), -2, Scene.AS_BAD);
        Supplier<WatchSleep> fresh = () -> new WatchSleep();
        refused("from: NO", fresh, x -> x.from(0), -3, Scene.AS_NO);
        refused("from: NO", fresh, x -> x.from(1), -3, Scene.AS_NO);
        refused("from: BAD", fresh, x -> x.from(2), -2, Scene.AS_BAD);
        refused("from: BAD", fresh, x -> x.from(-1), -2, Scene.AS_BAD);
    }

    private static void badAheadOfFull() {
        due.says("BAD; FULL.");
        Supplier<WatchSleep> scene = () -> Scene.full(4);
        refused("type: FULL", scene, x -> x.type(0, 1), -4, Scene.AS_FULL);
        refused("type: FULL", scene, x -> x.type(0, 8), -4, Scene.AS_FULL);
        refused("type: BAD", scene, x -> x.type(0, 9), -2, Scene.AS_BAD);
        refused("type: BAD", scene, x -> x.type(0, 0), -2, Scene.AS_BAD);
        refused("type: BAD", scene, x -> x.type(0, -1), -2, Scene.AS_BAD);
        refused("type: BAD", scene, x -> x.type(0, Integer.MAX_VALUE), -2, Scene.AS_BAD);
        due.says("BAD; FULL: 40.");
        refused("write: FULL", scene, x -> x.write(0), -4, Scene.AS_FULL);
        refused("write: FULL", scene, x -> x.write(127), -4, Scene.AS_FULL);
        refused("write: BAD", scene, x -> x.write(128), -2, Scene.AS_BAD);
        refused("write: BAD", scene, x -> x.write(-1), -2, Scene.AS_BAD);
    }

    private static void others() {
        due.says("(where others are told they count as these)");
        refused("tell: -10", () -> Scene.rich(4), x -> x.tell(4), -10, Scene.AS_BAD);
        refused("tell: -10", () -> Scene.rich(4), x -> x.tell(-2), -10, Scene.AS_BAD);
        refused("night: -10", () -> Scene.rich(4), x -> x.night(-1, 0), -10, Scene.AS_BAD);
        refused("night: -10", () -> Scene.rich(4), x -> x.night(Long.MIN_VALUE, 0), -10, Scene.AS_BAD);
        refused("night: -10", () -> Scene.rich(4), x -> x.night(0, 12), -10, Scene.AS_BAD);
        refused("night: -10", () -> Scene.rich(4), x -> x.night(0, -1), -10, Scene.AS_BAD);
        refused("status: -1", () -> Scene.rich(4), x -> x.status(3), -1, Scene.AS_BAD);
        refused("status: -1", () -> Scene.rich(4), x -> x.status(-1), -1, Scene.AS_BAD);
    }

    private static void neverRefused() {
        due.says("STATUS: how many calls were refused as BAD, NO, FULL (each answer told so below is such a one)");
        // Calls that take no number and tell no refusal, empty and full, with SHARES and without.
        for (int k = 0; k < 4; k++) {
            int which = k;
            Supplier<WatchSleep> scene = () -> which == 0 ? new WatchSleep() : which == 1 ? Scene.rich(4) : which == 2
                ? Scene.full(4) : Scene.shareless(4);
            WatchSleep x = scene.get();
            int[] before = Scene.status(x);
            x.clear();
            x.read();
            x.erase();
            x.fault();
            x.forget();
            x.judge();
            x.blind();
            x.digest();
            Scene.unrefused(due, "calls without a refusal", x, before);
        }
    }

    private static void noRefusals() {
        due.says("(each answer told so below is such a one)");
        Scene.idle(due, "-5 of night()", () -> Scene.rich(4), x -> x.night(Long.MAX_VALUE, 0), -5);
        Scene.idle(due, "NONE of night()", () -> Scene.rich(4), x -> x.night(0, 0), -1);
        Scene.idle(due, "NONE of limb()", () -> Scene.rich(4), x -> x.limb(0, 16), -1);
        Scene.idle(due, "NONE of soon()", () -> Scene.rich(4), x -> x.soon(0), -1);
        Scene.idle(due, "NONE of rounds()", () -> Scene.full(4), x -> x.rounds(1), -1);
        Scene.idle(due, "a FAULT of fault()", () -> new WatchSleep(), x -> x.fault(), 1);
        Scene.idle(due, "a FAULT of read()", () -> new WatchSleep(), x -> x.read(), -10);
        Scene.idle(due, "NONE of judge()", () -> new WatchSleep(), x -> x.judge(), -1);
        Scene.idle(due, "NONE of fault()", () -> Scene.rich(4), x -> x.fault(), -1);
    }

    /** Calls that only ask change nothing at all; those that tell THE FRACTION change it alone. */
    private static void everyQuestion() {
        due.says("changing nothing but STATUS");
        question("fault", x -> x.fault());
        question("asleep", x -> x.asleep(999, 1));
        question("tries", x -> x.tries());
        question("duke", x -> x.duke(7));
        question("nights", x -> x.nights());
        question("night", x -> x.night(3, 5));
        question("judge", x -> x.judge());
        question("rounds", x -> x.rounds(0));
        question("rounds", x -> x.rounds(1));
        question("soon", x -> x.soon(2));
        question("sign", x -> x.sign(2));
        question("limb", x -> x.limb(1, 0));
        question("status", x -> x.status(0));
        question("count", x -> x.count(4));
        question("digest", x -> x.digest());
        telling("has", x -> x.has(1));
        telling("two", x -> x.two());
        telling("ladder", x -> x.ladder(5));
        telling("knows", x -> x.knows());
        telling("best", x -> x.best(2));
        telling("chance", x -> x.chance(2, 1));
        telling("creak", x -> x.creak(5, 7, 2));
        telling("doubt", x -> x.doubt(1));
        telling("spy", x -> x.spy());
    }

    private static void question(String what, ToLongFunction<WatchSleep> call) {
        for (int n : new int[] {4, 9}) {
            WatchSleep x = Scene.rich(n);
            int[] before = Scene.status(x);
            long first = call.applyAsLong(x);
            due.is(what + " asked again", call.applyAsLong(x), first);
            Scene.unrefused(due, what, x, before);
            Scene.same(due, what, x, Scene.rich(n));
        }
    }

    private static void telling(String what, ToLongFunction<WatchSleep> call) {
        WatchSleep x = Scene.rich(4);
        int[] before = Scene.status(x);
        call.applyAsLong(x);
        Scene.unrefused(due, what, x, before);
        // THE FRACTION alone is unlike: it is brought back by the call that told it in the scene.
        x.has(3);
        Scene.same(due, what, x, Scene.rich(4));
    }

    private static void fractionAtFirst() {
        due.says("THE FRACTION is 0 by 1 at first; lowest terms, below above 0.");
        WatchSleep x = new WatchSleep();
        due.fraction("at first", x, "0", "1");
        x.has(0);
        due.fraction("10 by 9", x, "10", "9");
        x.put(0, 1, 0);
        x.has(0);
        due.fraction("0 by 8 is 0 by 1", x, "0", "1");
        x.put(0, 1, 1);
        x.put(0, 0, 0);
        x.has(0);
        due.fraction("0 by 9 is 0 by 1", x, "0", "1");
        x.put(0, 0, 9);
        x.has(0);
        due.fraction("9 by 9 is 1 by 1", x, "1", "1");
        x.put(0, 0, 99);
        x.put(0, 1, 4);
        x.has(0);
        due.fraction("396 by 12 is 33 by 1", x, "33", "1");
    }

    private static void fractionStays() {
        due.says("Refused, changing nothing but STATUS");
        Consumer<ToLongFunction<WatchSleep>> stays = call -> {
            WatchSleep x = Scene.shareless(4);
            long before = x.digest();
            call.applyAsLong(x);
            due.is("digest()", x.digest(), before);
            due.fraction("THE FRACTION of a refused call", x, "58", "5");
        };
        stays.accept(x -> x.has(0));
        stays.accept(x -> x.has(4));
        stays.accept(x -> x.two());
        stays.accept(x -> x.ladder(1));
        stays.accept(x -> x.ladder(0));
        stays.accept(x -> x.knows());
        stays.accept(x -> x.best(0));
        stays.accept(x -> x.best(5));
        stays.accept(x -> x.chance(1, 4));
        stays.accept(x -> x.chance(5, 0));
        stays.accept(x -> x.creak(1, 1, 1));
        stays.accept(x -> x.doubt(0));
        stays.accept(x -> x.doubt(4));
        stays.accept(x -> x.spy());
    }

    private static void limbs() {
        due.says("Its limbs are digits to the base 1073741824, the lowest first.");
        WatchSleep x = new WatchSleep();
        x.posts(2);
        // At least 1 of 29, 30, 31 by a half: 2 to that power less 1, by that power.
        x.thefts(0, 1, 29);
        x.doubt(0);
        due.is("one limb below 2^30", x.sign(2), 1);
        due.is("2^29", x.limb(1, 0), 536870912);
        x.thefts(0, 1, 30);
        x.doubt(0);
        due.is("one limb above, the greatest digit", x.sign(1), 1);
        due.is("2^30 less 1", x.limb(0, 0), 1073741823);
        due.is("limb(0, 1) of it", x.limb(0, 1), -1);
        due.is("two limbs below", x.sign(2), 2);
        due.is("2^30, the lowest", x.limb(1, 0), 0);
        due.is("2^30, the next", x.limb(1, 1), 1);
        due.is("2^30, no more", x.limb(1, 2), -1);
        x.thefts(0, 1, 31);
        x.doubt(0);
        due.is("two limbs above", x.sign(1), 2);
        due.is("2^31 less 1, the lowest", x.limb(0, 0), 1073741823);
        due.is("2^31 less 1, the next", x.limb(0, 1), 1);
        due.is("2^31, the next", x.limb(1, 1), 2);
        due.says("Limb i above (0), below (1). NONE: not so many. BAD: i below 0, too.");
        WatchSleep zero = new WatchSleep();
        due.is("0 has no limb", zero.limb(0, 0), -1);
        due.is("1 has one", zero.limb(1, 0), 1);
        due.is("1 has no more", zero.limb(1, 1), -1);
        due.is("limb(1, MAX)", zero.limb(1, Integer.MAX_VALUE), -1);
        due.is("limb(1, -1)", zero.limb(1, -1), -2);
        due.is("limb(1, MIN)", zero.limb(1, Integer.MIN_VALUE), -2);
        due.says("THE FRACTION: its sign (0: -1, 0, 1), how many limbs above (1), below (2). BAD.");
        due.is("sign(0) of 0", zero.sign(0), 0);
        due.is("sign(1) of 0", zero.sign(1), 0);
        due.is("sign(2) of 0", zero.sign(2), 1);
        // The longest there is: 890 to the 40th has 393 bits.
        WatchSleep most = new WatchSleep();
        for (int p = 0; p < 9; p++) {
            most.put(p, 1, p == 0 ? 97 : 99);
        }
        most.thefts(0, 1, 40);
        most.doubt(0);
        BigInteger below = BigInteger.valueOf(889).pow(40);
        due.fraction("1 less 792 by 889 to the 40th", most, below.subtract(BigInteger.valueOf(792).pow(40)), below);
        due.is("14 limbs", most.sign(2), 14);
        due.is("the 14th is not 0", most.limb(1, 13) > 0 ? 1 : 0, 1);
        due.is("there is no 15th", most.limb(1, 14), -1);
        // A shorter one then leaves nothing of it.
        most.has(0);
        due.fraction("970 by 889", most, "970", "889");
    }

    private static void images() {
        due.says("An IMAGE is kept: 1. BAD.");
        WatchSleep x = new WatchSleep();
        due.is("image(0)", x.image(0), 1);
        due.is("image(1)", x.image(1), 1);
        due.is("image(0) once more", x.image(0), 1);
        due.is("image(-1)", x.image(-1), -2);
        due.is("image(2)", x.image(2), -2);
        due.says("It goes on from an IMAGE: 1. BAD; NO: none was kept.");
        for (int i = 0; i < 2; i++) {
            WatchSleep y = new WatchSleep();
            due.is("from(" + i + ") of none", y.from(i), -3);
            due.is("from(" + (1 - i) + ") of none", y.from(1 - i), -3);
            y.image(i);
            due.is("from(" + i + ")", y.from(i), 1);
            due.is("from(" + i + ") once more", y.from(i), 1);
            due.is("from(" + (1 - i) + ") of none still", y.from(1 - i), -3);
            due.is("status(1)", y.status(1), 3);
        }
    }

    private static void imagesOfEverything() {
        due.says("IMAGES 0, 1 keep all but them");
        for (int i = 0; i < 2; i++) {
            for (int n = 1; n <= 9; n++) {
                WatchSleep x = Scene.full(n);
                long kept = x.digest();
                x.image(i);
                due.is("digest() behind image()", x.digest(), kept);
                x.posts(10 - n);
                x.captain(1, 0, 0, 0);
                x.erase();
                due.is("from()", x.from(i), 1);
                due.is("a full one comes back", x.digest(), kept);
                due.is("its night is full", x.tell(0), -4);
                due.is("its SIGHTS are full", x.sight(0, 0, 0), -4);
                due.is("its RULE is full", x.write('1'), -4);
            }
            WatchSleep empty = new WatchSleep();
            long kept = empty.digest();
            empty.image(i);
            empty.put(0, 0, 1);
            empty.put(0, 1, 2);
            empty.put(0, 2, 3);
            empty.thefts(0, 4, 5);
            empty.captain(4, 3, 2, 1);
            empty.write('h');
            empty.tell(0);
            empty.sight(5, 4, 1);
            empty.from(i);
            due.is("an empty one comes back", empty.digest(), kept);
        }
    }

    private static void imagesApart() {
        due.says("it goes on from one");
        WatchSleep x = Scene.rich(4);
        x.image(0);
        long kept = x.digest();
        // What is done behind image() or from() does not change the IMAGE.
        for (int k = 0; k < 2; k++) {
            x.put(0, 0, 77);
            x.put(1, 1, 66);
            x.put(2, 2, 5);
            x.thefts(3, 1, 1);
            x.captain(4, 0, 1, 2);
            x.erase();
            x.write('n');
            x.forget();
            x.tell(3);
            x.blind();
            x.sight(1, 2, 1);
            due.isTrue("it is another one now", x.digest() != kept);
            x.from(0);
            due.is("the IMAGE is as it was", x.digest(), kept);
        }
        // Nor is one IMAGE changed by the other, nor by going on from it.
        x.put(0, 0, 5);
        x.image(1);
        long other = x.digest();
        x.from(0);
        due.is("IMAGE 0", x.digest(), kept);
        x.from(1);
        due.is("IMAGE 1 is not what it was when IMAGE 0 was kept", x.digest(), other);
        x.put(0, 0, 6);
        x.image(0);
        long anew = x.digest();
        x.from(1);
        due.is("IMAGE 1", x.digest(), other);
        x.from(0);
        due.is("IMAGE 0 is the one that was kept last", x.digest(), anew);
    }

    private static void imagesKeepNot() {
        due.says("keep all but them, THE TEXT, THE FRACTION and STATUS");
        WatchSleep x = Scene.rich(4);
        x.image(0);
        x.has(0);
        // 1 of 10 SHARES, WORTH 20.
        due.fraction("another FRACTION", x, "2", "1");
        Scene.typeLong(x, "posts 2;");
        x.posts(0);
        int[] status = Scene.status(x);
        due.is("from(0)", x.from(0), 1);
        due.fraction("THE FRACTION is the one that is now", x, "2", "1");
        due.is("THE TEXT is the one that is now", x.count(3), 8);
        Scene.unrefused(due, "STATUS is the one that is now", x, status);
        due.is("THE TEXT is read", x.read(), 2);
    }

    private static void noImage() {
        due.says("NO: none was kept.");
        WatchSleep x = Scene.rich(4);
        WatchSleep fresh = new WatchSleep();
        due.is("IMAGES of another object", fresh.from(0), -3);
        due.is("IMAGES of its own", x.from(0), 1);
        // Neither posts() nor read() forgets an IMAGE.
        x.posts(1);
        due.is("behind posts()", x.from(1), 1);
        x.read();
        due.is("behind read()", x.from(0), 1);
    }

    private static void status() {
        due.says("STATUS: BAD (0), NO (1), FULL (2). -1: another what (counts as BAD).");
        WatchSleep x = new WatchSleep();
        due.is("status(3)", x.status(3), -1);
        due.is("it counts", x.status(0), 1);
        due.is("status(-1)", x.status(-1), -1);
        due.is("it counts", x.status(0), 2);
        due.is("as BAD alone", x.status(1) + x.status(2), 0);
        x.from(0);
        due.is("NO", x.status(1), 1);
        due.is("BAD is as it was", x.status(0), 2);
        for (int h = 0; h < 13; h++) {
            x.tell(0);
        }
        due.is("FULL", x.status(2), 1);
        due.is("NO is as it was", x.status(1), 1);
        due.is("BAD is as it was", x.status(0), 2);
    }

    private static void counts() {
        due.says("How many: 0 POSTS, 1 SIGHTS, 2 HOURS told of a NIGHT, 3 bytes of THE TEXT, 4 characters of THE RULE. BAD.");
        WatchSleep x = Scene.full(9);
        int[] most = {9, 12, 12, 200, 40};
        for (int what = 0; what <= 4; what++) {
            due.is("count(" + what + ") of a full one", x.count(what), most[what]);
        }
        x.posts(1);
        x.clear();
        x.erase();
        int[] least = {1, 0, 0, 0, 0};
        for (int what = 0; what <= 4; what++) {
            due.is("count(" + what + ") of an empty one", x.count(what), least[what]);
        }
        due.is("count(-1)", x.count(-1), -2);
        due.is("count(5)", x.count(5), -2);
    }

    private static void digest() {
        due.says("h = 739; then h = 31 h + v for each v: count(0) to count(4); of POSTS WORTH, SHARE, NEED, THEFTS, TRIED; THE"
            + " CAPTAIN's KIND, START, STEP, SEED; of SIGHTS HOUR, POST, asleep; HOURS told (NONE: nobody); characters of THE RULE;"
            + " THE FRACTION: sign(0) to sign(2), all limbs above, below.");
        WatchSleep x = new WatchSleep();
        x.posts(1);
        due.is("the shortest", x.digest(), mixed(1, 0, 0, 0, 0, 10, 1, 0, 0, 0, 0, 0, 0, 0, 0, 0, 1, 1));
        x.posts(2);
        x.put(0, 0, 99);
        x.put(1, 1, 99);
        x.put(1, 2, 12);
        x.thefts(0, 40, 40);
        x.thefts(1, 0, 40);
        x.captain(4, 1, 9, 999999);
        x.sight(999, 1, 1);
        x.sight(0, 0, 0);
        x.tell(-1);
        x.tell(1);
        x.write(0);
        x.write(127);
        x.type(-1L, 8);
        x.has(0);
        due.is("the greatest numbers", x.digest(), mixed(2, 2, 2, 8, 2, 99, 1, 0, 40, 40, 10, 99, 12, 0, 40, 4, 1, 9, 999999,
            999, 1, 1, 0, 0, 0, -1, 1, 0, 127, 1, 1, 1, 99, 100));
        // Limbs from the lowest on, those above ahead of those below.
        x.posts(2);
        x.thefts(0, 1, 31);
        x.captain(0, 0, 0, 0);
        x.erase();
        x.clear();
        x.doubt(0);
        due.is("two limbs each", x.digest(), mixed(2, 0, 0, 0, 0, 10, 1, 0, 1, 31, 10, 1, 0, 0, 0, 0, 0, 0, 0, 1, 2, 2, 1073741823, 1,
            0, 2));
        due.is("digest() is no refusal", x.status(0) + x.status(1) + x.status(2), 0);
    }

    private static void manyCalls() {
        due.says("An object is used for at most 512 calls after it has been made");
        WatchSleep x = new WatchSleep();
        for (int k = 0; k < 511; k++) {
            x.posts(0);
        }
        due.is("511 calls that are BAD", x.status(0), 511);
        x = new WatchSleep();
        for (int k = 0; k < 511; k++) {
            x.write(' ');
        }
        due.is("471 calls that are FULL", x.status(2), 471);
        x = new WatchSleep();
        for (int k = 0; k < 511; k++) {
            x.from(k % 2);
        }
        due.is("511 calls that are NO", x.status(1), 511);
    }
}
