import java.util.function.Supplier;
import java.util.function.ToLongFunction;

/** Objects in a known state, made anew each time, so that one can be compared with a twin that was left alone. */
final class Scene {
    private static final int NOT_REFUSED = -1;
    static final int AS_BAD = 0, AS_NO = 1, AS_FULL = 2;

    private Scene() {
    }

    /** n POSTS of which everything is told, with room for more, both IMAGES kept and a TEXT that can be read. */
    static WatchSleep rich(int n) {
        WatchSleep x = new WatchSleep();
        x.captain(3, 8, 4, 77);
        x.put(7, 0, 70);
        Due.write(x, "h");
        x.image(0);
        x.posts(n);
        for (int p = 0; p < n; p++) {
            x.put(p, 0, 20 + 3 * p);
            x.put(p, 1, 1 + p);
            x.thefts(p, 1 + p, 3 + 2 * p);
        }
        x.put(0, 2, 2);
        x.put(n - 1, 2, 3);
        x.captain(2, n - 1, 5, 4711);
        Due.write(x, "l+t*2");
        x.image(1);
        x.tell(0);
        x.tell(n - 1);
        x.tell(-1);
        x.sight(17, n - 1, 1);
        x.sight(3, 0, 0);
        typeLong(x, "posts 7;worth 6 55;share 2 9;need 3 4;");
        x.has(n - 1);
        return x;
    }

    /** The same, but no POST has a SHARE. */
    static WatchSleep shareless(int n) {
        WatchSleep x = rich(n);
        for (int p = 0; p < n; p++) {
            x.put(p, 1, 0);
        }
        return x;
    }

    /** The same, but all that can be FULL is. */
    static WatchSleep full(int n) {
        WatchSleep x = rich(n);
        typeLong(x, "posts 6;worth 5 66;" + " ".repeat(181));
        Due.write(x, "h+1+2+3+4+5+6+7+8+9+1+2+3+4+5+6+7+8+9+10");
        for (int h = 3; h < 12; h++) {
            x.tell(h % n);
        }
        for (int i = 2; i < 12; i++) {
            x.sight(100 + i, i % n, i % 2);
        }
        return x;
    }

    /** As many POSTS as there are WORTHS and SHARES. */
    static WatchSleep wall(int[] worths, int[] shares) {
        WatchSleep x = new WatchSleep();
        x.posts(worths.length);
        for (int p = 0; p < worths.length; p++) {
            x.put(p, 0, worths[p]);
            x.put(p, 1, shares[p]);
        }
        return x;
    }

    /** Eight bytes a call, so that an object stays far below its 512 calls. */
    static void typeLong(WatchSleep x, String text) {
        x.clear();
        for (int at = 0; at < text.length(); at += 8) {
            int bytes = Math.min(8, text.length() - at);
            long v = 0;
            for (int k = 0; k < bytes; k++) {
                v = v << 8 | text.charAt(at + k);
            }
            x.type(v, bytes);
        }
    }

    /** The call answers so, is counted in STATUS so (once), and changes nothing else. */
    static void refused(Due due, String what, Supplier<WatchSleep> scene, ToLongFunction<WatchSleep> call, long answer,
        int why) {
        WatchSleep x = scene.get();
        int[] before = status(x);
        due.is(what, call.applyAsLong(x), answer);
        for (int k = 0; k < 3; k++) {
            due.is(what + ", then status(" + k + ")", x.status(k), before[k] + (k == why ? 1 : 0));
        }
        same(due, what, x, scene.get());
    }

    /** The call answers so, is no refusal, and changes nothing. */
    static void idle(Due due, String what, Supplier<WatchSleep> scene, ToLongFunction<WatchSleep> call, long answer) {
        refused(due, what, scene, call, answer, NOT_REFUSED);
    }

    /** The call answers so and is no refusal; what it changes is another test's matter. */
    static void taken(Due due, String what, WatchSleep x, ToLongFunction<WatchSleep> call, long answer) {
        int[] before = status(x);
        due.is(what, call.applyAsLong(x), answer);
        unrefused(due, what, x, before);
    }

    static void unrefused(Due due, String what, WatchSleep x, int[] before) {
        for (int k = 0; k < 3; k++) {
            due.is(what + ", then status(" + k + ")", x.status(k), before[k]);
        }
    }

    static int[] status(WatchSleep x) {
        return new int[] {x.status(0), x.status(1), x.status(2)};
    }

    /** All but STATUS is the same in both, which are used up by this. */
    static void same(Due due, String what, WatchSleep x, WatchSleep twin) {
        long[] got = seen(x);
        long[] want = seen(twin);
        for (int i = 0; i < want.length; i++) {
            due.is(what + ", then " + SEEN[i], got[i], want[i]);
        }
    }

    private static final String[] SEEN = {"digest()", "read()", "digest() of THE WALL", "from(0)", "digest() of IMAGE 0",
        "from(1)", "digest() of IMAGE 1"};

    /** THE TEXT and the IMAGES are no part of a digest, so it has to go on from them. */
    private static long[] seen(WatchSleep x) {
        long now = x.digest();
        long read = x.read();
        long wall = x.digest();
        long first = x.from(0);
        long image0 = x.digest();
        long second = x.from(1);
        return new long[] {now, read, wall, first, image0, second, x.digest()};
    }
}
