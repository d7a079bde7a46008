import java.util.ArrayList;
import java.util.List;

/**
 * Each number that a call takes: the least and the greatest are taken, the first one beyond on either side and the
 * farthest ones are BAD; a call that is BAD by several numbers is counted once, and changes nothing but STATUS.
 */
public final class NumberEdgesTest {
    private static final Due due = new Due("NumberEdgesTest");
    private static final int MIN = Integer.MIN_VALUE, MAX = Integer.MAX_VALUE;

    private interface Answer {
        long of(WatchSleep x, long[] a);
    }

    /** A call with the least and the greatest of each of its numbers, and the words that tell them. */
    private static final class Call {
        final String words;
        final String name;
        final long bad;
        final long[][] ranges;
        final Answer answer;
        boolean wide;

        Call(String words, String name, long bad, Answer answer, long... ends) {
            this.words = words;
            this.name = name;
            this.bad = bad;
            this.answer = answer;
            this.ranges = new long[ends.length / 2][];
            for (int i = 0; i < ranges.length; i++) {
                ranges[i] = new long[] {ends[2 * i], ends[2 * i + 1]};
            }
        }

        /** Its first number is a long. */
        Call wide() {
            wide = true;
            return this;
        }
    }

    public static void main(String[] args) {
        for (int n = 1; n <= 9; n++) {
            for (Call call : calls(n)) {
                due.says(call.words);
                for (int i = 0; i < call.ranges.length; i++) {
                    ends(call, n, i);
                }
                allWrong(call, n);
            }
        }
        due.end();
    }

    private static List<Call> calls(int n) {
        List<Call> calls = new ArrayList<>();
        wallCalls(calls, n);
        captainCalls(calls, n);
        thiefCalls(calls, n);
        nightCalls(calls, n);
        seenCalls(calls, n);
        stateCalls(calls);
        return calls;
    }

    private static void wallCalls(List<Call> calls, int n) {
        calls.add(new Call("1 POSTS 0 to n less 1 (n 1 ..", "posts", -2, (x, a) -> x.posts((int) a[0]), 1, 9));
        calls.add(new Call("a WORTH (0 .. 99; 10 at first)", "put of a WORTH", -2, (x, a) -> x.put((int) a[0], 0, (int) a[1]),
            0, n - 1, 0, 99));
        calls.add(new Call("a SHARE (0 .. 99; 1 at first)", "put of a SHARE", -2, (x, a) -> x.put((int) a[0], 1, (int) a[1]),
            0, n - 1, 0, 99));
        calls.add(new Call("a NEED (0 .. 12; 0 at first)", "put of a NEED", -2, (x, a) -> x.put((int) a[0], 2, (int) a[1]),
            0, n - 1, 0, 12));
        calls.add(new Call("Of a POST: WORTH (0), SHARE (1), NEED (2): what it was. BAD.", "put of any", -2,
            (x, a) -> x.put((int) a[0], (int) a[1], 5), 0, n - 1, 0, 2));
        calls.add(new Call("The lowest n (1 .. 8) bytes of v", "type", -2, (x, a) -> x.type(a[0], (int) a[1]),
            Long.MIN_VALUE, Long.MAX_VALUE, 1, 8).wide());
        calls.add(new Call("A character (0 .. 127) behind THE RULE: how many. BAD; FULL: 40.", "write", -2,
            (x, a) -> x.write((int) a[0]), 0, 127));
    }

    private static void captainCalls(List<Call> calls, int n) {
        calls.add(new Call("with START (a POST, or 0), STEP (0 .. 9)", "captain", -2,
            (x, a) -> x.captain((int) a[0], (int) a[1], (int) a[2], (int) a[3]), 0, 4, 0, n - 1, 0, 9, 0, 999999));
        calls.add(new Call("X is SEED (0 .. 999999) at first", "captain's SEED", -2,
            (x, a) -> x.captain(2, n - 1, 9, (int) a[0]), 0, 999999));
        calls.add(new Call("THE CAPTAIN: who sleeps in an HOUR (what = 0), where the lantern is moved (1). BAD; NO.", "asleep's what", -2,
            (x, a) -> x.asleep(0, (int) a[0]), 0, 1));
        calls.add(new Call("tells who sleeps in HOUR h (0 .. 999)", "asleep", -2, (x, a) -> x.asleep((int) a[0], (int) a[1]),
            0, 999, 0, 1));
    }

    private static void thiefCalls(List<Call> calls, int n) {
        calls.add(new Call("HAS of a POST is THE FRACTION: 1. BAD; NO.", "has", -2, (x, a) -> x.has((int) a[0]), 0, n - 1));
        calls.add(new Call("LADDER of L HOURS (1 .. 9)", "ladder", -2, (x, a) -> x.ladder((int) a[0]), 1, 9));
        calls.add(new Call("BEST for a asleep (1 .. n) at once", "best", -2, (x, a) -> x.best((int) a[0]), 1, n));
        calls.add(new Call("BEST is THE FRACTION: 1. BAD.", "best", -2, (x, a) -> x.best((int) a[0]), 1, n));
        calls.add(new Call("CHANCE of a POST is THE FRACTION: 1. BAD.", "chance", -2,
            (x, a) -> x.chance((int) a[0], (int) a[1]), 1, n, 0, n - 1));
        calls.add(new Call("PAY (0 .. 99) for each who does not sleep", "duke", -2, (x, a) -> x.duke((int) a[0]), 0, 99));
        calls.add(new Call("DUKE. BAD.", "duke", -2, (x, a) -> x.duke((int) a[0]), 0, 99));
        calls.add(new Call("CREAK is THE FRACTION: 1. BAD; NO.", "creak's POSTS", -2, (x, a) -> x.creak((int) a[0], 10, 10),
            0, (1 << n) - 1));
        calls.add(new Call("by v of 10: 0 .. 10)", "creak", -2, (x, a) -> x.creak((int) a[0], (int) a[1], (int) a[2]),
            0, (1 << n) - 1, 0, 10, 0, 10));
    }

    private static void nightCalls(List<Call> calls, int n) {
        calls.add(new Call("Who sleeps in an HOUR (0 .. 11) of THE i-th; NONE: nobody. -5: there are not so many. BAD: -10: i"
            + " below 0, too; NO.", "night", -10, (x, a) -> x.night(a[0], (int) a[1]), 0, Long.MAX_VALUE, 0, 11).wide());
        calls.add(new Call("An HOUR of a NIGHT is told (NONE: nobody): how many are. BAD: -10; FULL: 12.", "tell", -10,
            (x, a) -> x.tell((int) a[0]), -1, n - 1));
    }

    private static void seenCalls(List<Call> calls, int n) {
        calls.add(new Call("A SIGHT: its number. BAD (HOUR 0 .. 999); FULL: 12.", "sight", -2,
            (x, a) -> x.sight((int) a[0], (int) a[1], (int) a[2]), 0, 999, 0, n - 1, 0, 1));
        calls.add(new Call("ROUNDS: how many (0), the first (1). NONE. BAD.", "rounds", -2, (x, a) -> x.rounds((int) a[0]),
            0, 1));
        calls.add(new Call("SOON by a POST. NONE. BAD.", "soon", -2, (x, a) -> x.soon((int) a[0]), 0, n - 1));
        String thefts = "THEFTS (0 .. 40) of TRIED (0 .. 40, no fewer) of a POST are told";
        calls.add(new Call(thefts, "thefts of 40 TRIED", -2, (x, a) -> x.thefts((int) a[0], (int) a[1], 40),
            0, n - 1, 0, 40));
        calls.add(new Call(thefts, "thefts of 7 TRIED", -2, (x, a) -> x.thefts((int) a[0], (int) a[1], 7), 0, n - 1, 0, 7));
        calls.add(new Call(thefts, "thefts of 0 TRIED", -2, (x, a) -> x.thefts((int) a[0], (int) a[1], 0), 0, n - 1, 0, 0));
        calls.add(new Call(thefts, "0 thefts of TRIED", -2, (x, a) -> x.thefts(0, 0, (int) a[0]), 0, 40));
        calls.add(new Call(thefts, "7 thefts of TRIED", -2, (x, a) -> x.thefts(0, 7, (int) a[0]), 7, 40));
        calls.add(new Call(thefts, "40 thefts of TRIED", -2, (x, a) -> x.thefts(0, 40, (int) a[0]), 40, 40));
        calls.add(new Call("THEFTS, TRIED of a POST: 1. BAD.", "a POST's thefts", -2, (x, a) -> x.thefts((int) a[0], 40, 40), 0, n - 1));
        calls.add(new Call("DOUBT is THE FRACTION: 1. BAD; NO.", "doubt", -2, (x, a) -> x.doubt((int) a[0]), 0, n - 1));
    }

    private static void stateCalls(List<Call> calls) {
        calls.add(new Call("THE FRACTION: its sign (0: -1, 0, 1), how many limbs above (1), below (2). BAD.", "sign", -2,
            (x, a) -> x.sign((int) a[0]), 0, 2));
        calls.add(new Call("Limb i above (0), below (1). NONE: not so many. BAD: i below 0, too.", "limb", -2,
            (x, a) -> x.limb((int) a[0], (int) a[1]), 0, 1, 0, MAX));
        calls.add(new Call("IMAGES 0, 1 keep all but them", "image", -2, (x, a) -> x.image((int) a[0]), 0, 1));
        calls.add(new Call("It goes on from an IMAGE: 1. BAD; NO: none was kept.", "from", -2, (x, a) -> x.from((int) a[0]),
            0, 1));
        calls.add(new Call("STATUS: BAD (0), NO (1), FULL (2). -1: another what (counts as BAD).", "status", -1,
            (x, a) -> x.status((int) a[0]), 0, 2));
        calls.add(new Call("How many: 0 POSTS, 1 SIGHTS, 2 HOURS told of a NIGHT, 3 bytes of THE TEXT, 4 characters of THE"
            + " RULE. BAD.", "count", -2, (x, a) -> x.count((int) a[0]), 0, 4));
    }

    /** The i-th number at its ends and beyond, the others at both of theirs. */
    private static void ends(Call call, int n, int i) {
        boolean wide = call.wide && i == 0;
        long far = wide ? Long.MIN_VALUE : MIN;
        long high = wide ? Long.MAX_VALUE : MAX;
        for (int side = 0; side < 2; side++) {
            long[] a = others(call, side);
            takes(call, n, with(a, i, call.ranges[i][0]));
            takes(call, n, with(a, i, call.ranges[i][1]));
            if (call.ranges[i][0] > far) {
                refuses(call, n, with(a, i, call.ranges[i][0] - 1));
                refuses(call, n, with(a, i, far));
            }
            if (call.ranges[i][1] < high) {
                refuses(call, n, with(a, i, call.ranges[i][1] + 1));
                refuses(call, n, with(a, i, high));
            }
        }
    }

    private static long[] others(Call call, int side) {
        long[] a = new long[call.ranges.length];
        for (int i = 0; i < a.length; i++) {
            a[i] = call.ranges[i][side];
        }
        return a;
    }

    private static long[] with(long[] a, int i, long v) {
        long[] b = a.clone();
        b[i] = v;
        return b;
    }

    /** Several numbers that are not as told are one refusal. */
    private static void allWrong(Call call, int n) {
        long[] below = new long[call.ranges.length];
        long[] above = new long[call.ranges.length];
        for (int i = 0; i < below.length; i++) {
            boolean all = call.wide && i == 0 && call.ranges[i][0] == Long.MIN_VALUE;
            below[i] = all ? 0 : call.ranges[i][0] - 1;
            above[i] = call.ranges[i][1] == MAX || call.ranges[i][1] == Long.MAX_VALUE ? below[i] : call.ranges[i][1] + 1;
        }
        refuses(call, n, below);
        refuses(call, n, above);
    }

    private static String told(Call call, int n, long[] a) {
        StringBuilder told = new StringBuilder(call.name + " by " + n + " POSTS");
        for (long v : a) {
            told.append(", ").append(v);
        }
        return told.toString();
    }

    private static void takes(Call call, int n, long[] a) {
        WatchSleep x = Scene.rich(n);
        int before = x.status(0);
        long answer = call.answer.of(x, a);
        due.isTrue(told(call, n, a) + " is taken", answer != call.bad);
        due.is(told(call, n, a) + ", then status(0)", x.status(0), before);
    }

    private static void refuses(Call call, int n, long[] a) {
        Scene.refused(due, told(call, n, a), () -> Scene.rich(n), x -> call.answer.of(x, a), call.bad, Scene.AS_BAD);
    }
}
