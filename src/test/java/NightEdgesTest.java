import java.math.BigInteger;
import java.util.ArrayList;
import java.util.Arrays;
import java.util.HashSet;
import java.util.List;
import java.util.Random;
import java.util.Set;

/** Nights, and what was seen, at the edges that the document's words name. */
public final class NightEdgesTest {
    private static final Due due = new Due("NightEdgesTest");

    public static void main(String[] args) {
        needs();
        everyNight();
        numbers();
        order();
        told();
        judgeNone();
        judgeEach();
        judgeTooManyNeeds();
        sights();
        pairs();
        roundsByEachSight();
        soonOfEach();
        soonLast();
        thefts();
        doubt();
        spy();
        spyByDoubt();
        due.end();
    }

    private static WatchSleep needing(int... needs) {
        WatchSleep x = new WatchSleep();
        x.posts(needs.length);
        for (int p = 0; p < needs.length; p++) {
            x.put(p, 2, needs[p]);
        }
        return x;
    }

    private static void needs() {
        due.says("NIGHTS: how many are LAWFUL (NO: NEEDS are more than 12 together)");
        Scene.idle(due, "no NEED", () -> needing(0), x -> x.nights(), 1);
        Scene.idle(due, "no NEED of 9", () -> needing(0, 0, 0, 0, 0, 0, 0, 0, 0), x -> x.nights(), 1);
        Scene.idle(due, "1", () -> needing(1), x -> x.nights(), 12);
        Scene.idle(due, "11", () -> needing(11), x -> x.nights(), 2);
        Scene.idle(due, "12", () -> needing(12), x -> x.nights(), 1);
        Scene.idle(due, "12 and 0", () -> needing(0, 12), x -> x.nights(), 1);
        Scene.idle(due, "6 and 6", () -> needing(6, 6), x -> x.nights(), 2);
        Scene.idle(due, "12 of 9", () -> needing(1, 1, 1, 1, 1, 1, 1, 1, 4), x -> x.nights(), 362880);
        Scene.idle(due, "9 of 9, the most there can be", () -> needing(1, 1, 1, 1, 1, 1, 1, 1, 1), x -> x.nights(), 79833600);
        due.says("NIGHTS. NO.");
        Scene.refused(due, "12 and 1", () -> needing(12, 1), x -> x.nights(), -3, Scene.AS_NO);
        Scene.refused(due, "6 and 7", () -> needing(6, 7), x -> x.nights(), -3, Scene.AS_NO);
        Scene.refused(due, "13 of 9", () -> needing(1, 1, 1, 1, 1, 1, 1, 1, 5), x -> x.nights(), -3, Scene.AS_NO);
        Scene.refused(due, "9 times 12", () -> needing(12, 12, 12, 12, 12, 12, 12, 12, 12), x -> x.nights(), -3, Scene.AS_NO);
        Scene.refused(due, "night of 13", () -> needing(6, 7), x -> x.night(0, 0), -3, Scene.AS_NO);
        due.says("BAD: -10: i below 0, too; NO.");
        Scene.refused(due, "NO ahead of -5", () -> needing(6, 7), x -> x.night(Long.MAX_VALUE, 11), -3, Scene.AS_NO);
        Scene.refused(due, "BAD ahead of NO", () -> needing(6, 7), x -> x.night(-1, 0), -10, Scene.AS_BAD);
        Scene.refused(due, "BAD ahead of NO", () -> needing(6, 7), x -> x.night(0, 12), -10, Scene.AS_BAD);
        Scene.refused(due, "BAD ahead of NO", () -> needing(6, 7), x -> x.night(0, -1), -10, Scene.AS_BAD);
        Scene.refused(due, "BAD ahead of -5", () -> needing(6, 6), x -> x.night(2, 12), -10, Scene.AS_BAD);
    }

    /** All 12 HOURS by nobody, POST 0, POST 1, in this order, of which those are kept that are LAWFUL by its words. */
    private static List<int[]> lawful(int need0, int need1) {
        List<int[]> all = new ArrayList<>();
        int[] night = new int[12];
        for (int code = 0; code < 531441; code++) {
            int rest = code;
            for (int h = 11; h >= 0; h--) {
                night[h] = rest % 3 - 1;
                rest /= 3;
            }
            if (sleepsOnce(night, 0, need0) && sleepsOnce(night, 1, need1)) {
                all.add(night.clone());
            }
        }
        return all;
    }

    private static boolean sleepsOnce(int[] night, int post, int need) {
        int hours = 0;
        int stretches = 0;
        for (int h = 0; h < 12; h++) {
            if (night[h] == post) {
                hours++;
                stretches += h == 0 || night[h - 1] != post ? 1 : 0;
            }
        }
        return hours == need && stretches <= 1;
    }

    private static final int[][] NEEDS = {{0, 0}, {1, 0}, {0, 1}, {1, 1}, {2, 3}, {6, 6}, {12, 0}, {0, 12}, {11, 1}, {1, 11}, {11, 0},
        {5, 6}, {4, 4}};

    private static void everyNight() {
        due.says("it is LAWFUL, if each POST's watchman sleeps as many HOURS as his NEED, all in one stretch");
        for (int[] needs : NEEDS) {
            List<int[]> all = lawful(needs[0], needs[1]);
            String what = "NEEDS " + needs[0] + ", " + needs[1];
            due.is(what + ": nights()", needing(needs).nights(), all.size());
            for (int i = 0; i < all.size(); i++) {
                WatchSleep x = needing(needs);
                for (int h = 0; h < 12; h++) {
                    due.is(what + ": night(" + i + ", " + h + ")", x.night(i, h), all.get(i)[h]);
                }
            }
            int many = all.size();
            for (int hour : new int[] {0, 11}) {
                Scene.idle(due, what + ": one more than there are", () -> needing(needs), x -> x.night(many, hour), -5);
                Scene.idle(due, what + ": far more", () -> needing(needs), x -> x.night(Long.MAX_VALUE, hour), -5);
                Scene.idle(due, what + ": beyond an int", () -> needing(needs), x -> x.night(1L << 32, hour), -5);
            }
        }
    }

    private static void numbers() {
        due.says("-5: there are not so many.");
        WatchSleep x = needing(1, 1, 1, 1, 1, 1, 1, 1, 1);
        int[] first = {-1, -1, -1, 0, 1, 2, 3, 4, 5, 6, 7, 8};
        int[] last = {8, 7, 6, 5, 4, 3, 2, 1, 0, -1, -1, -1};
        for (int h = 0; h < 12; h++) {
            due.is("the first, " + h, x.night(0, h), first[h]);
            due.is("the last, " + h, x.night(79833599, h), last[h]);
            due.is("one more, " + h, x.night(79833600, h), -5);
            due.is("as many as an int wraps to 0, " + h, x.night(1L << 32, h), -5);
        }
        due.is("-5 is no refusal", x.status(0) + x.status(1) + x.status(2), 0);
    }

    private static void order() {
        due.says("THE i-th (0 on; by HOURS: nobody ahead of all, then POSTS rising, as the first unlike HOUR tells)");
        WatchSleep x = needing(4, 0, 3, 5);
        int[][] orders = {{0, 2, 3}, {0, 3, 2}, {2, 0, 3}, {2, 3, 0}, {3, 0, 2}, {3, 2, 0}};
        int[] needs = {4, 0, 3, 5};
        due.is("nights()", x.nights(), 6);
        for (int i = 0; i < 6; i++) {
            int hour = 0;
            for (int who : orders[i]) {
                for (int k = 0; k < needs[who]; k++) {
                    due.is("night(" + i + ", " + hour + ")", x.night(i, hour), who);
                    hour++;
                }
            }
        }
        due.is("night(6, 0)", x.night(6, 0), -5);
        // NEED 11: nobody sleeps in the first HOUR, or in the last.
        x = needing(11);
        due.is("nobody ahead", x.night(0, 0), -1);
        due.is("POST 0 behind", x.night(0, 1), 0);
        due.is("POST 0 ahead", x.night(1, 0), 0);
        due.is("nobody behind", x.night(1, 11), -1);
    }

    private static WatchSleep told(String hours, int... needs) {
        WatchSleep x = needing(needs);
        for (int i = 0; i < hours.length(); i++) {
            x.tell(hours.charAt(i) == '-' ? -1 : hours.charAt(i) - '0');
        }
        return x;
    }

    private static void told() {
        due.says("A told NIGHT: HOURS are told as they come (NONE: nobody; 12 at most)");
        for (int n = 1; n <= 9; n++) {
            WatchSleep x = new WatchSleep();
            x.posts(n);
            for (int h = 1; h <= 12; h++) {
                due.is("tell", x.tell(h % 2 == 0 ? -1 : n - 1), h);
                due.is("count(2)", x.count(2), h);
            }
            due.is("tell of the 13th", x.tell(n - 1), -4);
            due.is("tell of nobody as the 13th", x.tell(-1), -4);
            due.is("count(2)", x.count(2), 12);
            due.is("status(2)", x.status(2), 2);
            due.says("Nothing is told of a NIGHT: how many HOURS were.");
            due.is("forget() of a full one", x.forget(), 12);
            due.is("forget() of an empty one", x.forget(), 0);
            due.is("the first again", x.tell(0), 1);
        }
        due.says("BAD: -10; FULL: 12.");
        for (int wrong : new int[] {-2, 4, 9, Integer.MIN_VALUE, Integer.MAX_VALUE}) {
            Scene.refused(due, "BAD ahead of FULL, tell(" + wrong + ")", () -> Scene.full(4), x -> x.tell(wrong), -10, Scene.AS_BAD);
        }
        Scene.refused(due, "tell(3) of a full one", () -> Scene.full(4), x -> x.tell(3), -4, Scene.AS_FULL);
        Scene.refused(due, "tell(-1) of a full one", () -> Scene.full(4), x -> x.tell(-1), -4, Scene.AS_FULL);
    }

    private static void judgeNone() {
        due.says("JUDGE: the first HOUR such that no LAWFUL NIGHT begins as is told up to that HOUR; none.");
        Scene.idle(due, "nothing told", () -> told("", 2, 3), x -> x.judge(), -1);
        Scene.idle(due, "all 12 of nobody, no NEED", () -> told("------------", 0, 0), x -> x.judge(), -1);
        Scene.idle(due, "all 12 of one", () -> told("000000000000", 12, 0), x -> x.judge(), -1);
        Scene.idle(due, "as many HOURS of nobody as there may be", () -> told("-------", 2, 3), x -> x.judge(), -1);
        Scene.idle(due, "one more", () -> told("--------", 2, 3), x -> x.judge(), 7);
        due.says("JUDGE. NONE.");
        Scene.idle(due, "wrong in HOUR 0", () -> told("1", 2, 0), x -> x.judge(), 0);
        Scene.idle(due, "wrong in HOUR 11", () -> told("-----------0", 0, 0), x -> x.judge(), 11);
        Scene.idle(due, "too short by the last HOUR", () -> told("---------00-", 3, 0), x -> x.judge(), 11);
        Scene.idle(due, "too late to begin", () -> told("----------", 3), x -> x.judge(), 9);
        Scene.idle(due, "the first of several", () -> told("0-0-0", 2), x -> x.judge(), 1);
    }

    /** Each beginning of 5 HOURS by two POSTS, and each night with one HOUR changed. */
    private static void judgeEach() {
        due.says("the first HOUR such that no LAWFUL NIGHT begins as is told up to that HOUR");
        for (int[] needs : NEEDS) {
            List<int[]> all = lawful(needs[0], needs[1]);
            Set<String> beginnings = new HashSet<>();
            for (int[] night : all) {
                for (int h = 0; h < 12; h++) {
                    beginnings.add(text(night, h + 1));
                }
            }
            int[] night = new int[12];
            for (int code = 0; code < 243; code++) {
                for (int h = 0, rest = code; h < 5; h++, rest /= 3) {
                    night[h] = rest % 3 - 1;
                }
                judged(needs, night, 5, beginnings);
            }
            for (int i = 0; i < Math.min(40, all.size()); i++) {
                judged(needs, all.get(i), 12, beginnings);
                for (int h = 0; h < 12; h++) {
                    int[] other = all.get(i).clone();
                    other[h] = (other[h] + 2) % 3 - 1;
                    judged(needs, other, 12, beginnings);
                }
            }
        }
    }

    private static String text(int[] night, int hours) {
        StringBuilder text = new StringBuilder();
        for (int h = 0; h < hours; h++) {
            text.append(night[h] < 0 ? "-" : "" + night[h]);
        }
        return text.toString();
    }

    private static void judged(int[] needs, int[] night, int hours, Set<String> beginnings) {
        int want = -1;
        for (int h = hours - 1; h >= 0; h--) {
            want = beginnings.contains(text(night, h + 1)) ? want : h;
        }
        String text = text(night, hours);
        due.is("NEEDS " + needs[0] + ", " + needs[1] + ": judge() of " + text, told(text, needs).judge(), want);
    }

    private static void judgeTooManyNeeds() {
        due.says("no LAWFUL NIGHT begins as is told");
        Scene.idle(due, "NEEDS of 13, nothing told", () -> told("", 6, 7), x -> x.judge(), -1);
        Scene.idle(due, "NEEDS of 13, POST 0", () -> told("0", 6, 7), x -> x.judge(), 0);
        Scene.idle(due, "NEEDS of 13, nobody", () -> told("-", 6, 7), x -> x.judge(), 0);
        Scene.idle(due, "NEEDS of 13, 12 told", () -> told("000000111111", 6, 7), x -> x.judge(), 0);
        Scene.idle(due, "NEEDS of 12, 12 told", () -> told("000000111111", 6, 6), x -> x.judge(), -1);
    }

    private static void sights() {
        due.says("SIGHTS 0 .. 11, as they come: in an HOUR one was seen asleep at a POST (1), or awake (0).");
        WatchSleep x = new WatchSleep();
        due.is("no SIGHTS", x.rounds(0), 81);
        for (int i = 0; i < 12; i++) {
            due.is("sight", x.sight(i % 2 == 0 ? 0 : 999, i % 9, 0), i);
            due.is("count(1)", x.count(1), i + 1);
        }
        due.is("sight of the 13th", x.sight(0, 0, 0), -4);
        due.is("count(1)", x.count(1), 12);
        due.says("No SIGHTS: how many there were.");
        due.is("blind() of a full one", x.blind(), 12);
        due.is("blind() of an empty one", x.blind(), 0);
        due.is("no SIGHTS", x.rounds(0), 81);
        due.is("the first again", x.sight(999, 8, 1), 0);
        due.says("A SIGHT: its number. BAD (HOUR 0 .. 999); FULL: 12.");
        Scene.refused(due, "sight of a full one", () -> Scene.full(4), y -> y.sight(0, 0, 0), -4, Scene.AS_FULL);
        int[][] wrong = {{-1, 0, 0}, {1000, 0, 0}, {0, -1, 0}, {0, 4, 0}, {0, 0, -1}, {0, 0, 2}};
        for (int[] w : wrong) {
            Scene.refused(due, "BAD ahead of FULL", () -> Scene.full(4), y -> y.sight(w[0], w[1], w[2]), -2, Scene.AS_BAD);
        }
        // The last SIGHT counts as the first does.
        x.blind();
        for (int i = 0; i < 11; i++) {
            x.sight(0, 3, 1);
        }
        due.is("eleven like SIGHTS", x.rounds(0), 9);
        x.sight(0, 3, 0);
        due.is("the twelfth is against them", x.rounds(0), 0);
        due.is("none is the first", x.rounds(1), -1);
    }

    private static void pairs() {
        due.says("pairs of START (0 .. n less 1) and STEP (0 .. n less 1) of a ROUND by which all SIGHTS are so: how many; the first"
            + " (10 START and STEP); none.");
        for (int n = 1; n <= 9; n++) {
            int last = n - 1;
            WatchSleep x = new WatchSleep();
            x.posts(n);
            due.is("all pairs of " + n, x.rounds(0), n * n);
            due.is("the first of all", x.rounds(1), 0);
            x.sight(0, last, 1);
            x.sight(1, (2 * last) % n, 1);
            due.is("the last pair alone", x.rounds(0), 1);
            due.is("the last pair", x.rounds(1), 10 * last + last);
            x.sight(1, (2 * last) % n, 0);
            due.is("none", x.rounds(0), 0);
            due.is("none is the first", x.rounds(1), -1);
            due.is("NONE is no refusal", x.status(0) + x.status(1) + x.status(2), 0);
            // THE CAPTAIN's START and STEP do not tell here.
            x.blind();
            x.captain(1, last, 9, 0);
            due.is("all pairs of " + n, x.rounds(0), n * n);
        }
    }

    private static void roundsByEachSight() {
        due.says("by which all SIGHTS are so");
        for (int n = 1; n <= 9; n++) {
            for (int hour : new int[] {0, 1, n - 1, n, 998, 999}) {
                for (int post = 0; post < n; post++) {
                    for (int asleep = 0; asleep < 2; asleep++) {
                        WatchSleep x = new WatchSleep();
                        x.posts(n);
                        x.sight(hour, post, asleep);
                        int many = 0;
                        int first = -1;
                        for (int pair = n * n - 1; pair >= 0; pair--) {
                            boolean there = (pair / n + hour * (pair % n)) % n == post;
                            many += there == (asleep == 1) ? 1 : 0;
                            first = there == (asleep == 1) ? 10 * (pair / n) + pair % n : first;
                        }
                        due.is("rounds(0) by " + hour + ", " + post + ", " + asleep + " of " + n, x.rounds(0), many);
                        due.is("rounds(1) by " + hour + ", " + post + ", " + asleep + " of " + n, x.rounds(1), first);
                    }
                }
            }
        }
    }

    /** The first h of 0 .. 99 by which one pair is left, by looking at each HOUR. */
    private static int soonBy(int n, int start, int step, int post) {
        boolean[] left = new boolean[n * n];
        Arrays.fill(left, true);
        for (int h = 0; h <= 99; h++) {
            boolean seen = (start + h * step) % n == post;
            int many = 0;
            for (int pair = 0; pair < n * n; pair++) {
                left[pair] &= ((pair / n + h * (pair % n)) % n == post) == seen;
                many += left[pair] ? 1 : 0;
            }
            if (many == 1) {
                return h;
            }
        }
        return -1;
    }

    private static void soonOfEach() {
        due.says("the first h (0 .. 99) by which just one pair were left; none.");
        for (int n = 1; n <= 9; n++) {
            for (int start = 0; start < n; start++) {
                for (int step = 0; step <= 9; step++) {
                    WatchSleep x = new WatchSleep();
                    x.posts(n);
                    x.captain((start + step) % 5, start, step, 1);
                    for (int post = 0; post < n; post++) {
                        due.is("soon(" + post + ") by START " + start + ", STEP " + step + " of " + n, x.soon(post),
                            soonBy(n, start, step, post));
                    }
                }
            }
        }
    }

    private static void soonLast() {
        due.says("SOON: had one looked at a POST alone in each HOUR 0 .. h of a ROUND with THE CAPTAIN's START and STEP");
        WatchSleep x = new WatchSleep();
        x.posts(1);
        x.captain(1, 0, 9, 0);
        due.is("one pair at all: HOUR 0", x.soon(0), 0);
        x.sight(0, 0, 0);
        due.is("SIGHTS tell nothing here", x.soon(0), 0);
        Scene.idle(due, "none is no refusal", () -> Scene.rich(9), y -> y.soon(0), soonBy(9, 8, 5, 0));
        due.is("by 9 POSTS, START 8, STEP 5 it is none", soonBy(9, 8, 5, 0), -1);
        // No SHARES are needed.
        Scene.taken(due, "without SHARES", Scene.shareless(1), y -> y.soon(0), 0);
    }

    private static void thefts() {
        due.says("THEFTS (0 .. 40) of TRIED (0 .. 40, no fewer) of a POST are told (0, 0 at first)");
        WatchSleep x = new WatchSleep();
        for (int p = 0; p < 9; p++) {
            x.doubt(p);
            due.fraction("0 of 0 at first", x, "1", "1");
        }
        for (int tried = 0; tried <= 41; tried++) {
            for (int done = -1; done <= 42; done++) {
                boolean as = done >= 0 && done <= tried && tried <= 40;
                due.is("thefts of " + done + ", " + tried, new WatchSleep().thefts(8, done, tried), as ? 1 : -2);
            }
        }
        due.is("both below 0", x.thefts(0, -1, -1), -2);
        due.is("TRIED below 0", x.thefts(0, 0, -1), -2);
        due.is("thefts of the first", x.thefts(0, 1, 1), 1);
        due.is("thefts are told anew", x.thefts(0, 0, 0), 1);
        x.doubt(0);
        due.fraction("0 of 0 again", x, "1", "1");
    }

    private static void doubt() {
        due.says("DOUBT: the chance of as many THEFTS at least, were one asleep there by its SHARE each time.");
        for (int tried = 0; tried <= 40; tried++) {
            for (int done : new int[] {0, 1, tried - 1, tried}) {
                if (done >= 0 && done <= tried) {
                    doubtOfHalf(done, tried);
                    doubtOfAll(done, tried);
                    doubtOfNone(done, tried);
                }
            }
        }
    }

    /** 1 of 2 SHARES: all ways are like, so they can be counted by Pascal's rows. */
    private static void doubtOfHalf(int done, int tried) {
        BigInteger[] ways = new BigInteger[tried + 1];
        Arrays.fill(ways, BigInteger.ZERO);
        ways[0] = BigInteger.ONE;
        for (int k = 0; k < tried; k++) {
            for (int j = tried; j > 0; j--) {
                ways[j] = ways[j].add(ways[j - 1]);
            }
        }
        BigInteger above = BigInteger.ZERO;
        for (int k = done; k <= tried; k++) {
            above = above.add(ways[k]);
        }
        BigInteger below = BigInteger.ONE.shiftLeft(tried);
        WatchSleep x = new WatchSleep();
        x.posts(2);
        x.thefts(1, done, tried);
        due.is("doubt(1)", x.doubt(1), 1);
        due.fraction(done + " of " + tried + " by 1 of 2", x, above.divide(above.gcd(below)), below.divide(above.gcd(below)));
    }

    private static void doubtOfAll(int done, int tried) {
        WatchSleep x = new WatchSleep();
        x.posts(2);
        x.put(0, 1, 0);
        x.put(1, 1, 99);
        x.thefts(1, done, tried);
        due.is("doubt(1)", x.doubt(1), 1);
        due.fraction(done + " of " + tried + " by all SHARES", x, "1", "1");
    }

    private static void doubtOfNone(int done, int tried) {
        WatchSleep x = new WatchSleep();
        x.posts(2);
        x.put(1, 1, 0);
        x.thefts(1, done, tried);
        due.is("doubt(1)", x.doubt(1), 1);
        due.fraction(done + " of " + tried + " by no SHARE", x, done == 0 ? "1" : "0", "1");
    }

    private static void spy() {
        due.says("SPY: the POST by which that is least, of like ones the least.");
        for (int n = 1; n <= 9; n++) {
            WatchSleep x = new WatchSleep();
            x.posts(n);
            due.is("nothing told, " + n, x.spy(), 0);
            due.fraction("nothing told, " + n, x, "1", "1");
            x.thefts(n - 1, 1, 1);
            due.is("the last, " + n, x.spy(), n - 1);
            due.fraction("the last, " + n, x, "1", "" + n);
            x.thefts(0, 1, 1);
            due.is("the first and the last are like, " + n, x.spy(), 0);
            x.thefts(n - 1, 40, 40);
            due.is("40 of 40, " + n, x.spy(), n == 1 ? 0 : n - 1);
            due.fraction("40 of 40, " + n, x, BigInteger.ONE, BigInteger.valueOf(n).pow(40));
        }
        // 1 of 1 by a SHARE of 1 of 4 is as 2 of 2 by 2 of 4.
        WatchSleep x = new WatchSleep();
        x.posts(3);
        x.put(2, 1, 2);
        x.thefts(2, 2, 2);
        x.thefts(1, 1, 1);
        due.is("like ones of unlike SHARES", x.spy(), 1);
        due.fraction("like ones of unlike SHARES", x, "1", "4");
        x.thefts(1, 1, 2);
        due.is("7 by 16, 1 by 4", x.spy(), 2);
        x.put(0, 1, 0);
        x.thefts(0, 0, 40);
        due.is("no SHARE and no THEFTS: 1", x.spy(), 2);
        x.thefts(0, 1, 40);
        due.is("no SHARE and a THEFT: 0", x.spy(), 0);
        due.fraction("no SHARE and a THEFT", x, "0", "1");
    }

    /** The least of what doubt() tells, on one object by turns for large and small numbers. */
    private static void spyByDoubt() {
        due.says("SPY; its DOUBT is THE FRACTION. NO.");
        Random random = new Random(9);
        for (int run = 0; run < 300; run++) {
            WatchSleep x = new WatchSleep();
            int n = 2 + random.nextInt(2);
            x.posts(n);
            for (int k = 0; k < 3; k++) {
                for (int p = 0; p < n; p++) {
                    x.put(p, 1, 1 + random.nextInt(random.nextBoolean() ? 99 : 5));
                    int tried = random.nextInt(41);
                    x.thefts(p, random.nextInt(tried + 1), tried);
                }
                spyIsTheLeast(x, n);
            }
        }
    }

    private static void spyIsTheLeast(WatchSleep x, int n) {
        int spy = x.spy();
        BigInteger above = Due.number(x, 0);
        BigInteger below = Due.number(x, 1);
        int least = 0;
        BigInteger up = null;
        BigInteger down = null;
        for (int p = 0; p < n; p++) {
            x.doubt(p);
            BigInteger a = Due.number(x, 0);
            BigInteger b = Due.number(x, 1);
            if (p == 0 || a.multiply(down).compareTo(up.multiply(b)) < 0) {
                least = p;
                up = a;
                down = b;
            }
        }
        due.is("spy()", spy, least);
        due.isTrue("its DOUBT", above.equals(up) && below.equals(down));
    }
}
