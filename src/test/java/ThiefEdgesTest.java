import java.math.BigInteger;
import java.util.Arrays;
import java.util.function.ToLongFunction;

/** What thieves have, at the edges that the document's words name. */
public final class ThiefEdgesTest {
    private static final Due due = new Due("ThiefEdgesTest");

    public static void main(String[] args) {
        noWhole();
        leastWhole();
        greatestWhole();
        has();
        tries();
        two();
        ladder();
        knows();
        best();
        chanceOfWorthless();
        chanceOneAtMost();
        chancesTogether();
        duke();
        dukeByBest();
        oneAfterAnother();
        creakBits();
        creakTenths();
        creakNever();
        due.end();
    }

    private static int[] row(int... values) {
        return values;
    }

    private static int[] ones(int n) {
        int[] ones = new int[n];
        Arrays.fill(ones, 1);
        return ones;
    }

    private static void fraction(String what, WatchSleep x, ToLongFunction<WatchSleep> call, long above, long below) {
        Scene.taken(due, what, x, call, 1);
        due.fraction(what, x, Long.toString(above), Long.toString(below));
    }

    private static void noWhole() {
        for (int n = 1; n <= 9; n++) {
            int last = n - 1;
            int all = (1 << n) - 1;
            due.says("TRIES. NO.");
            refusedAsNo("tries", n, x -> x.tries());
            due.says("KNOWS is THE FRACTION: 1. NO.");
            refusedAsNo("knows", n, x -> x.knows());
            due.says("SPY; its DOUBT is THE FRACTION. NO.");
            refusedAsNo("spy", n, x -> x.spy());
            due.says("WHOLE: all SHARES together (0: NO to all that goes by SHARES).");
            refusedAsNo("has", n, x -> x.has(last));
            refusedAsNo("two", n, x -> x.two());
            refusedAsNo("ladder(1)", n, x -> x.ladder(1));
            refusedAsNo("ladder(9)", n, x -> x.ladder(9));
            refusedAsNo("creak of all", n, x -> x.creak(all, 10, 10));
            refusedAsNo("creak of one", n, x -> x.creak(1, 10, 10));
            refusedAsNo("creak of none", n, x -> x.creak(0, 10, 10));
            refusedAsNo("doubt", n, x -> x.doubt(last));
            // What does not go by SHARES is answered.
            Scene.taken(due, "best", Scene.shareless(n), x -> x.best(1), 1);
            Scene.taken(due, "chance", Scene.shareless(n), x -> x.chance(1, last), 1);
            Scene.taken(due, "duke", Scene.shareless(n), x -> x.duke(0), 1);
            Scene.taken(due, "night", Scene.shareless(n), x -> x.night(0, 0), -1);
            Scene.taken(due, "judge", Scene.shareless(n), x -> x.judge(), n == 1 ? 2 : 1);
        }
    }

    private static void refusedAsNo(String what, int n, ToLongFunction<WatchSleep> call) {
        Scene.refused(due, what + " of " + n + " POSTS without SHARES", () -> Scene.shareless(n), call, -3, Scene.AS_NO);
    }

    private static void leastWhole() {
        due.says("WHOLE: all SHARES together");
        for (int n = 1; n <= 9; n++) {
            int last = n - 1;
            WatchSleep x = Scene.shareless(n);
            x.put(last, 1, 1);
            int worth = 20 + 3 * last;
            fraction("has of the only SHARE", x, y -> y.has(last), worth, 1);
            if (n > 1) {
                fraction("has of no SHARE", x, y -> y.has(0), 0, 1);
                Scene.taken(due, "two", x, y -> y.two(), last);
            }
            Scene.taken(due, "tries", x, y -> y.tries(), last);
            fraction("ladder", x, y -> y.ladder(9), worth, 1);
            fraction("knows", x, y -> y.knows(), 0, 1);
            fraction("creak", x, y -> y.creak(1 << last, 1, 10), 1, 1);
            // All but the last have no SHARE, and THEFTS: their chance is 0.
            Scene.taken(due, "spy", x, y -> y.spy(), 0);
            due.fraction("spy", x, n == 1 ? "1" : "0", "1");
            fraction("doubt", x, y -> y.doubt(last), 1, 1);
        }
    }

    private static void greatestWhole() {
        due.says("a SHARE (0 .. 99; 1 at first)");
        int[] most = new int[9];
        Arrays.fill(most, 99);
        WatchSleep x = Scene.wall(most, most);
        fraction("has of 99 by 891", x, y -> y.has(8), 11, 1);
        fraction("knows of 99", x, y -> y.knows(), 88, 1);
        Scene.taken(due, "two", x, y -> y.two(), 1);
        due.fraction("two", x, "22", "1");
        fraction("ladder(9) of 1 by 9 to the 9th", x, y -> y.ladder(9), 11, 43046721);
        x.put(0, 1, 98);
        // 99 to the 10th by 890 to the 9th.
        due.is("ladder(9)", x.ladder(9), 1);
        due.fraction("ladder(9) of 890", x, BigInteger.valueOf(99).pow(10), BigInteger.valueOf(890).pow(9));
        x.thefts(8, 40, 40);
        due.is("doubt(8)", x.doubt(8), 1);
        due.fraction("doubt of 40 by 890", x, BigInteger.valueOf(99).pow(40), BigInteger.valueOf(890).pow(40));
        due.is("limbs below", x.sign(2), 14);
    }

    private static void has() {
        due.says("its SHARE by WHOLE times its WORTH");
        WatchSleep x = Scene.wall(row(0, 99, 1, 50), row(99, 1, 0, 0));
        fraction("WORTH 0", x, y -> y.has(0), 0, 1);
        fraction("1 by 100 of 99", x, y -> y.has(1), 99, 100);
        fraction("SHARE 0", x, y -> y.has(2), 0, 1);
        x = Scene.wall(row(99), row(99));
        fraction("one POST alone", x, y -> y.has(0), 99, 1);
    }

    private static void tries() {
        due.says("TRIES: the POST by which that is most, of like ones the least.");
        for (int n = 1; n <= 9; n++) {
            WatchSleep x = new WatchSleep();
            x.posts(n);
            due.is("all like, " + n, x.tries(), 0);
            x.put(n - 1, 0, 11);
            due.is("the last is most, " + n, x.tries(), n - 1);
            x.put(0, 0, 11);
            due.is("the first and the last are like, " + n, x.tries(), 0);
            for (int p = 0; p < n; p++) {
                x.put(p, 0, 0);
            }
            due.is("none has anything, " + n, x.tries(), 0);
        }
        // 2 times 3 and 3 times 2 are like, 7 times 1 is more.
        due.is("6, 6", Scene.wall(row(1, 2, 3), row(1, 3, 2)).tries(), 1);
        due.is("6, 7", Scene.wall(row(1, 2, 7), row(1, 3, 1)).tries(), 2);
        due.is("6, 5", Scene.wall(row(1, 2, 5), row(1, 3, 1)).tries(), 1);
        due.is("the dearest without a SHARE", Scene.wall(row(99, 1), row(0, 1)).tries(), 1);
        WatchSleep x = Scene.rich(4);
        long before = x.digest();
        x.tries();
        due.is("tries() leaves THE FRACTION and all", x.digest(), before);
    }

    private static void two() {
        due.says("TWO: two POSTS by which both together are most, of like ones the first (lesser, other).");
        for (int n = 2; n <= 9; n++) {
            WatchSleep x = new WatchSleep();
            x.posts(n);
            due.is("all like, " + n, x.two(), 1);
            due.fraction("all like, " + n, x, "" + 20 / gcd(20, n), "" + n / gcd(20, n));
            x.put(n - 1, 0, 11);
            due.is("the last is most, " + n, x.two(), n - 1);
            x.put(n - 2, 0, 11);
            due.is("the last two are most, " + n, x.two(), 10 * (n - 2) + n - 1);
            x.put(0, 0, 11);
            due.is("three are like, " + n, x.two(), n == 2 ? 1 : n - 2);
            for (int p = 0; p < n; p++) {
                x.put(p, 0, 0);
            }
            due.is("none has anything, " + n, x.two(), 1);
            due.fraction("none has anything, " + n, x, "0", "1");
        }
        due.says("TWO: 10 times the lesser and the other one; what both have is THE FRACTION.");
        // 31 and 64 are more than all others have: each pair in its turn.
        for (int lesser = 0; lesser < 9; lesser++) {
            for (int other = lesser + 1; other < 9; other++) {
                WatchSleep x = new WatchSleep();
                for (int p = 0; p < 9; p++) {
                    x.put(p, 0, p == lesser ? 31 : p == other ? 64 : 1 + p);
                }
                due.is("two", x.two(), 10 * lesser + other);
                due.fraction("two: " + lesser + ", " + other, x, "95", "9");
            }
        }
        due.says("NO: one POST alone, too.");
        WatchSleep alone = Scene.wall(row(5), row(5));
        alone.has(0);
        long before = alone.digest();
        due.is("two of one", alone.two(), -3);
        due.is("status(1)", alone.status(1), 1);
        due.is("digest()", alone.digest(), before);
        due.says("Refused, changing nothing but STATUS, the first of");
        Scene.refused(due, "two of one without a SHARE: one refusal", () -> Scene.shareless(1), x -> x.two(), -3, Scene.AS_NO);
        Scene.refused(due, "two of one", () -> Scene.rich(1), x -> x.two(), -3, Scene.AS_NO);
    }

    private static long gcd(long a, long b) {
        return BigInteger.valueOf(a).gcd(BigInteger.valueOf(b)).longValue();
    }

    private static void ladder() {
        due.says("LADDER of L HOURS (1 .. 9): the most that can be had, if one has to sleep at that POST in L HOURS together");
        WatchSleep x = Scene.wall(row(4, 9), row(3, 2));
        // 12 and 18 by 5; 36 and 36 by 25; 108 and 72 by 125.
        fraction("ladder(1)", x, y -> y.ladder(1), 18, 5);
        fraction("ladder(2)", x, y -> y.ladder(2), 36, 25);
        fraction("ladder(3)", x, y -> y.ladder(3), 108, 125);
        fraction("ladder(9)", x, y -> y.ladder(9), 78732, 1953125);
        fraction("nothing to be had", Scene.wall(row(0, 9), row(3, 0)), y -> y.ladder(9), 0, 1);
        fraction("the last POST", Scene.wall(row(1, 1, 2), row(1, 1, 1)), y -> y.ladder(1), 2, 3);
        fraction("one POST alone", Scene.wall(row(99), row(7)), y -> y.ladder(9), 99, 1);
        fraction("one of two", Scene.wall(row(99, 0), row(1, 1)), y -> y.ladder(9), 99, 512);
        fraction("one POST alone of WORTH 0, SHARE 1", Scene.wall(row(0), row(1)), y -> y.ladder(9), 0, 1);
        // 99 to the 9th times 0 is less than 5.
        x = Scene.wall(row(5, 0), row(1, 99));
        x.ladder(9);
        due.fraction("a WORTH of 0 by the greatest SHARE", x, BigInteger.ONE, BigInteger.TEN.pow(18).divide(BigInteger.valueOf(5)));
    }

    private static void knows() {
        due.says("KNOWS: what it is worth to be told, each time, who sleeps");
        fraction("one POST alone", Scene.wall(row(99), row(7)), x -> x.knows(), 0, 1);
        fraction("one who sleeps alone", Scene.wall(row(1, 99, 5), row(0, 3, 0)), x -> x.knows(), 0, 1);
        fraction("nothing to be had", Scene.wall(row(0, 0), row(1, 2)), x -> x.knows(), 0, 1);
        fraction("two like ones", Scene.wall(row(6, 6), row(1, 1)), x -> x.knows(), 3, 1);
        fraction("others", Scene.wall(row(6, 3, 1), row(1, 2, 4)), x -> x.knows(), 10, 7);
    }

    private static void best() {
        due.says("chances of POSTS (0 to 1 each, a together) by which the greatest of WORTH times chance is least: that least, v");
        for (int n = 1; n <= 9; n++) {
            int[] worths = new int[n];
            for (int p = 0; p < n; p++) {
                worths[p] = 11 * (p + 1);
            }
            int all = n;
            WatchSleep x = Scene.wall(worths, ones(n));
            fraction("all " + n + " asleep: the greatest WORTH", x, y -> y.best(all), 11L * n, 1);
            Arrays.fill(worths, 99);
            x = Scene.wall(worths, ones(n));
            for (int a = 1; a <= n; a++) {
                int some = a;
                fraction(a + " of " + n + " like ones", x, y -> y.best(some), 99L * a / gcd(99L * a, n), n / gcd(99L * a, n));
            }
            Arrays.fill(worths, 0);
            x = Scene.wall(worths, ones(n));
            fraction("all worthless, one asleep", x, y -> y.best(1), 0, 1);
            fraction("all worthless, all asleep", x, y -> y.best(all), 0, 1);
        }
        // As many worthless ones as sleep, and one fewer.
        WatchSleep x = Scene.wall(row(0, 5, 0, 7), row(1, 1, 1, 1));
        fraction("2 asleep, 2 worthless", x, y -> y.best(2), 0, 1);
        fraction("3 asleep, 2 worthless", x, y -> y.best(3), 35, 12);
        fraction("4 asleep", x, y -> y.best(4), 7, 1);
        // 2 by (1, 1 by 9, 1 by 9) is 18 by 11, above 1: the first is sure, the others share 1.
        x = Scene.wall(row(1, 9, 9), row(1, 1, 1));
        fraction("1 asleep of 1, 9, 9", x, y -> y.best(1), 9, 11);
        fraction("2 asleep of 1, 9, 9: one is sure", x, y -> y.best(2), 9, 2);
        // v comes to the WORTH of the least one exactly: 2 by (1 by 2, 1 by 4, 1 by 4) is 2.
        x = Scene.wall(row(2, 4, 4), row(1, 1, 1));
        fraction("2 asleep of 2, 4, 4: just sure", x, y -> y.best(2), 2, 1);
        fraction("of just sure ones the chance is 1", x, y -> y.chance(2, 0), 1, 1);
        fraction("the others share the rest", x, y -> y.chance(2, 1), 1, 2);
        x = Scene.wall(row(99, 98, 97, 95, 94, 93, 92, 91, 89), ones(9));
        BigInteger product = BigInteger.ONE;
        BigInteger sum = BigInteger.ZERO;
        for (int worth : row(99, 98, 97, 95, 94, 93, 92, 91, 89)) {
            sum = sum.multiply(BigInteger.valueOf(worth)).add(product);
            product = product.multiply(BigInteger.valueOf(worth));
        }
        for (int a = 1; a <= 7; a++) {
            BigInteger above = product.multiply(BigInteger.valueOf(a));
            due.is("best(" + a + ")", x.best(a), 1);
            due.fraction("best(" + a + ") of large ones", x, above.divide(above.gcd(sum)), sum.divide(above.gcd(sum)));
        }
    }

    private static void chanceOfWorthless() {
        due.says("if there are a POSTS of WORTH 0 at least: a by how many these are for each of these, 0 for others (v is 0)");
        WatchSleep x = Scene.wall(row(0, 5, 0, 0), row(1, 1, 1, 1));
        for (int p : row(0, 2, 3)) {
            fraction("1 of 3 worthless", x, y -> y.chance(1, p), 1, 3);
            fraction("2 of 3 worthless", x, y -> y.chance(2, p), 2, 3);
            fraction("3 of 3 worthless", x, y -> y.chance(3, p), 1, 1);
            fraction("all 4", x, y -> y.chance(4, p), 1, 1);
        }
        fraction("another, 1 asleep", x, y -> y.chance(1, 1), 0, 1);
        fraction("another, as many asleep as are worthless", x, y -> y.chance(3, 1), 0, 1);
        due.says("else 1 for those of WORTH 0, v by WORTH for others, 1 at most.");
        fraction("another, one more asleep than are worthless", x, y -> y.chance(4, 1), 1, 1);
        x = Scene.wall(row(0, 5, 0, 7), row(1, 1, 1, 1));
        fraction("a worthless one, 3 asleep", x, y -> y.chance(3, 0), 1, 1);
        fraction("5 by 35/12", x, y -> y.chance(3, 1), 7, 12);
        fraction("7 by 35/12", x, y -> y.chance(3, 3), 5, 12);
        for (int n = 1; n <= 9; n++) {
            x = Scene.wall(new int[n], ones(n));
            for (int a = 1; a <= n; a++) {
                int some = a;
                fraction(a + " of " + n + ", all worthless", x, y -> y.chance(some, 0), a / gcd(a, n), n / gcd(a, n));
            }
        }
    }

    private static void chanceOneAtMost() {
        due.says("v by WORTH for others, 1 at most");
        WatchSleep x = Scene.wall(row(1, 9, 9), row(1, 1, 1));
        fraction("v by WORTH is 9 by 2", x, y -> y.chance(2, 0), 1, 1);
        fraction("v by WORTH is 1 by 2", x, y -> y.chance(2, 1), 1, 2);
        fraction("v by WORTH is 9 by 11", x, y -> y.chance(1, 0), 9, 11);
        for (int p = 0; p < 3; p++) {
            int post = p;
            fraction("all asleep", x, y -> y.chance(3, post), 1, 1);
        }
    }

    private static void chancesTogether() {
        due.says("(0 to 1 each, a together)");
        int[][] walls = {{1}, {0, 99}, {1, 99, 50}, {0, 0, 1, 2, 3}, {7, 7, 7, 7}, {1, 2, 4, 8, 16, 32, 64, 96, 99},
            {99, 1, 99, 1, 99, 1, 99, 1, 99}, {0, 0, 0, 0, 0, 0, 0, 0, 1}};
        for (int[] worths : walls) {
            WatchSleep x = Scene.wall(worths, ones(worths.length));
            for (int a = 1; a <= worths.length; a++) {
                BigInteger above = BigInteger.ZERO;
                BigInteger below = BigInteger.ONE;
                for (int p = 0; p < worths.length; p++) {
                    x.chance(a, p);
                    BigInteger up = Due.number(x, 0);
                    BigInteger down = Due.number(x, 1);
                    due.isTrue("1 at most", up.compareTo(down) <= 0);
                    above = above.multiply(down).add(up.multiply(below));
                    below = below.multiply(down);
                }
                due.isTrue(a + " together", above.equals(below.multiply(BigInteger.valueOf(a))));
            }
        }
    }

    private static void duke() {
        due.says("DUKE: the a (1 .. n) by which BEST, and PAY times (n less a), are least together, of like ones the least.");
        for (int n = 1; n <= 9; n++) {
            int[] worths = new int[n];
            WatchSleep x = Scene.wall(worths, ones(n));
            due.is("worthless, PAY 0: all like, " + n, x.duke(0), 1);
            due.is("worthless, PAY 1, " + n, x.duke(1), n);
            due.is("worthless, PAY 99, " + n, x.duke(99), n);
            Arrays.fill(worths, n);
            // BEST is a: with PAY 1 it is n by each.
            x = Scene.wall(worths, ones(n));
            due.is("PAY 0, " + n, x.duke(0), 1);
            due.is("PAY 1: all like, " + n, x.duke(1), 1);
            due.is("PAY 2, " + n, x.duke(2), n);
        }
        WatchSleep x = Scene.wall(row(99, 99), row(1, 1));
        due.is("49 1/2 and 49, 99", x.duke(49), 1);
        due.is("49 1/2 and 50, 99", x.duke(50), 2);
        // One worthless, BEST is 0, 1, 2 by 1, 2, 3 asleep.
        x = Scene.wall(row(0, 2, 2), row(1, 1, 1));
        due.is("0 and 2, 1 and 1, 2: like", x.duke(1), 1);
        due.is("0, 1, 2", x.duke(0), 1);
        due.is("0 and 4, 1 and 2, 2", x.duke(2), 3);
        // BEST of 3, 6: 2, 6.
        x = Scene.wall(row(3, 6), row(1, 1));
        due.is("2 and 3, 6", x.duke(3), 1);
        due.is("2 and 4, 6: like", x.duke(4), 1);
        due.is("2 and 5, 6", x.duke(5), 2);
        // Like ones that are no whole numbers: 12 1/2, 18 2/3, 13 1/3 by 2 and by 3.
        due.is("65/4, 25/2, 25/2, 30", Scene.wall(row(3, 3, 10, 30), ones(4)).duke(5), 2);
        due.is("70/3, 56/3, 56/3, 28", Scene.wall(row(5, 7, 20, 28), ones(4)).duke(7), 2);
        due.is("44/3, 40/3, 40/3, 28", Scene.wall(row(28, 14, 8, 7), ones(4)).duke(4), 2);
        WatchSleep rich = Scene.rich(5);
        long before = rich.digest();
        rich.duke(50);
        due.is("duke() leaves THE FRACTION and all", rich.digest(), before);
    }

    /** For each PAY the least of what best() tells, in fractions that can not be too large. */
    private static void dukeByBest() {
        due.says("DUKE: the a (1 .. n) by which BEST, and PAY times (n less a), are least together, of like ones the least.");
        int[][] walls = {{7, 40, 10, 10, 40}, {60, 20, 60}, {42, 56, 28, 72, 14}, {3, 3, 12, 20}, {3, 3, 15, 15}, {2, 3, 5, 7, 11, 13, 17},
            {99, 98, 97, 95, 94, 93, 92, 91, 89}, {1, 2, 3, 4, 5, 6, 7, 8, 9}, {97, 89, 83, 79, 73, 71, 67, 61, 59},
            {0, 0, 19, 23, 29, 31, 37, 41, 43}, {99, 1, 99, 1, 99, 1, 99, 1, 99}, {0, 99}, {13, 17, 19}, {53, 47, 43, 41, 37, 31, 29, 23}};
        for (int[] worths : walls) {
            int n = worths.length;
            WatchSleep x = Scene.wall(worths, ones(n));
            BigInteger[] above = new BigInteger[n + 1];
            BigInteger[] below = new BigInteger[n + 1];
            for (int a = 1; a <= n; a++) {
                x.best(a);
                above[a] = Due.number(x, 0);
                below[a] = Due.number(x, 1);
            }
            for (int pay = 0; pay <= 99; pay++) {
                int least = 1;
                for (int a = 2; a <= n; a++) {
                    BigInteger now = above[a].add(below[a].multiply(BigInteger.valueOf(pay * (n - a))));
                    BigInteger was = above[least].add(below[least].multiply(BigInteger.valueOf(pay * (n - least))));
                    least = now.multiply(below[least]).compareTo(was.multiply(below[a])) < 0 ? a : least;
                }
                due.is("duke(" + pay + ") of " + Arrays.toString(worths), x.duke(pay), least);
            }
        }
    }

    /** What a call with large numbers left behind does not tell in a later one with small ones. */
    private static void oneAfterAnother() {
        due.says("LADDER is THE FRACTION: 1. BAD; NO.");
        WatchSleep x = Scene.wall(row(99, 98, 3), row(99, 98, 97));
        x.thefts(0, 40, 40);
        x.thefts(1, 2, 3);
        x.thefts(2, 1, 40);
        for (int l = 9; l >= 1; l--) {
            due.is("ladder", x.ladder(l), 1);
            BigInteger up = BigInteger.valueOf(99).pow(l + 1);
            BigInteger down = BigInteger.valueOf(294).pow(l);
            due.fraction("ladder(" + l + ") behind a longer one", x, up.divide(up.gcd(down)), down.divide(up.gcd(down)));
        }
        due.is("doubt(2)", x.doubt(2), 1);
        due.is("doubt(0)", x.doubt(0), 1);
        // 3 times 98^2 times 196, and 98^3, by 294^3: 7 by 27.
        fraction("doubt(1) behind longer ones", x, y -> y.doubt(1), 7, 27);
        x.ladder(9);
        x.put(0, 0, 0);
        x.put(1, 0, 0);
        x.put(2, 0, 0);
        fraction("ladder(9) of nothing behind a longer one", x, y -> y.ladder(9), 0, 1);
        x.spy();
        fraction("doubt(1) behind spy()", x, y -> y.doubt(1), 7, 27);
        x.doubt(0);
        fraction("knows() behind doubt()", x, y -> y.knows(), 0, 1);
        x.doubt(2);
        fraction("best() behind doubt()", x, y -> y.best(3), 0, 1);
    }

    private static void creakBits() {
        due.says("one of some POSTS (bits) sleeps");
        for (int n = 1; n <= 9; n++) {
            WatchSleep x = new WatchSleep();
            x.posts(n);
            for (int bits = 1; bits < 1 << n; bits = bits * 2 + bits % 3 + 1) {
                int set = bits;
                int many = Integer.bitCount(bits);
                // By like SHARES and like tenths it is how many of n they are.
                fraction("bits " + bits + " of " + n, x, y -> y.creak(set, 3, 3), many / gcd(many, n), n / gcd(many, n));
            }
            int last = 1 << (n - 1);
            x.put(n - 1, 1, 99);
            fraction("the last bit", x, y -> y.creak(last, 10, 10), 99 / gcd(99, 98 + n), (98 + n) / gcd(99, 98 + n));
            fraction("all bits", x, y -> y.creak((1 << y.count(0)) - 1, 1, 10), 1, 1);
            fraction("no bits", x, y -> y.creak(0, 10, 1), 0, 1);
        }
    }

    private static void creakTenths() {
        due.says("(of all HOURS in which he does it is heard by u of 10, of all in which he does not by v of 10: 0 .. 10)");
        WatchSleep x = Scene.wall(row(1, 1), row(1, 3));
        fraction("u 10, v 0", x, y -> y.creak(1, 10, 0), 1, 1);
        fraction("u 10, v 10", x, y -> y.creak(1, 10, 10), 1, 4);
        fraction("u 0, v 10", x, y -> y.creak(1, 0, 10), 0, 1);
        fraction("u 1, v 1", x, y -> y.creak(1, 1, 1), 1, 4);
        fraction("u 10, v 1", x, y -> y.creak(1, 10, 1), 10, 13);
        fraction("u 1, v 10", x, y -> y.creak(1, 1, 10), 1, 31);
    }

    private static void creakNever() {
        due.says("(NO: it is never heard, too)");
        Scene.refused(due, "u 0, v 0", () -> Scene.rich(4), x -> x.creak(3, 0, 0), -3, Scene.AS_NO);
        Scene.refused(due, "all, u 0", () -> Scene.rich(4), x -> x.creak(15, 0, 10), -3, Scene.AS_NO);
        Scene.refused(due, "none, v 0", () -> Scene.rich(4), x -> x.creak(0, 10, 0), -3, Scene.AS_NO);
        Scene.refused(due, "one without a SHARE, v 0", () -> oneAsleep(), x -> x.creak(2, 10, 0), -3, Scene.AS_NO);
        Scene.refused(due, "he who always sleeps, u 0", () -> oneAsleep(), x -> x.creak(1, 0, 10), -3, Scene.AS_NO);
        Scene.taken(due, "all but one, u 0", Scene.rich(4), x -> x.creak(14, 0, 1), 1);
        Scene.taken(due, "one, v 0", Scene.rich(4), x -> x.creak(1, 1, 0), 1);
        Scene.taken(due, "all, u 1", Scene.rich(4), x -> x.creak(15, 1, 0), 1);
        Scene.taken(due, "none, v 1", Scene.rich(4), x -> x.creak(0, 0, 1), 1);
        due.says("Refused, changing nothing but STATUS, the first of: BAD -2 a number is not as told; NO -3 as told");
        Scene.refused(due, "BAD ahead of NO", () -> Scene.shareless(4), x -> x.creak(16, 0, 0), -2, Scene.AS_BAD);
        Scene.refused(due, "BAD ahead of never heard", () -> Scene.rich(4), x -> x.creak(15, 0, 11), -2, Scene.AS_BAD);
        Scene.refused(due, "BAD ahead of never heard", () -> Scene.rich(4), x -> x.creak(0, 11, 0), -2, Scene.AS_BAD);
    }

    /** POST 0 alone has a SHARE. */
    private static WatchSleep oneAsleep() {
        WatchSleep x = Scene.shareless(3);
        x.put(0, 1, 7);
        return x;
    }
}
