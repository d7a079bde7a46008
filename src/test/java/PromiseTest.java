import java.math.BigInteger;

/** Each promise by answers that were worked by hand: ordinary inputs, the edges, wrong inputs. */
public final class PromiseTest {
    private static final int MIN = Integer.MIN_VALUE, MAX = Integer.MAX_VALUE;
    private static final Due due = new Due("PromiseTest");

    public static void main(String[] args) {
        newObject();
        posts();
        put();
        captain();
        type();
        clear();
        read();
        wallFaults();
        write();
        erase();
        fault();
        ruleValues();
        asleep();
        has();
        tries();
        two();
        ladder();
        knows();
        best();
        chance();
        duke();
        creak();
        nights();
        night();
        tell();
        forget();
        judge();
        sight();
        blind();
        rounds();
        soon();
        thefts();
        doubt();
        spy();
        sign();
        limb();
        image();
        from();
        status();
        count();
        digest();
        due.end();
    }

    private static void refusals(String what, WatchSleep x, int bad, int no, int full) {
        due.is(what + ": status(0)", x.status(0), bad);
        due.is(what + ": status(1)", x.status(1), no);
        due.is(what + ": status(2)", x.status(2), full);
    }

    /** A call that is refused changes nothing that the digest tells. */
    private static void same(String what, WatchSleep x, long before) {
        due.is(what + ": digest", x.digest(), before);
    }

    private static WatchSleep noShares() {
        WatchSleep x = new WatchSleep();
        x.posts(2);
        x.put(0, 1, 0);
        x.put(1, 1, 0);
        return x;
    }

    private static int[] row(int... values) {
        return values;
    }

    // 1
    private static void newObject() {
        WatchSleep x = new WatchSleep();
        due.is("new: posts", x.count(0), 9);
        for (int what = 1; what <= 4; what++) {
            due.is("new: count " + what, x.count(what), 0);
        }
        due.fraction("new", x, "0", "1");
        refusals("new", x, 0, 0, 0);
        for (int p = 0; p < 9; p++) {
            due.is("new: worth", x.put(p, 0, 10), 10);
            due.is("new: share", x.put(p, 1, 1), 1);
            due.is("new: need", x.put(p, 2, 0), 0);
        }
        due.is("new: from(0)", x.from(0), -3);
        due.is("new: from(1)", x.from(1), -3);
        due.is("new: rule", x.fault(), 1);
        due.is("new: captain by lot, seed 0", x.asleep(0, 0), 0);
    }

    // 2
    private static void posts() {
        WatchSleep x = new WatchSleep();
        x.captain(2, 8, 7, 55);
        Due.write(x, "s+t");
        x.put(0, 0, 99);
        x.put(1, 1, 5);
        x.put(2, 2, 3);
        x.tell(2);
        x.sight(1, 1, 1);
        x.thefts(3, 1, 2);
        Due.type(x, "abc");
        due.is("posts(4)", x.posts(4), 9);
        due.is("posts: sights", x.count(1), 0);
        due.is("posts: hours", x.count(2), 0);
        due.is("posts: text stays", x.count(3), 3);
        due.is("posts: rule stays", x.count(4), 3);
        due.is("posts: start 0, kind and step stay: 0+7 by 4", x.asleep(0, 0), 3);
        due.is("posts: worth", x.put(0, 0, 1), 10);
        due.is("posts: share", x.put(1, 1, 1), 1);
        due.is("posts: need", x.put(2, 2, 0), 0);
        x.doubt(3);
        due.fraction("posts: no thefts", x, "1", "1");
        due.is("posts: 4 is none", x.put(4, 0, 1), -2);
        due.is("posts(1)", x.posts(1), 4);
        due.is("posts(9)", x.posts(9), 1);
        long before = x.digest();
        due.is("posts(0)", x.posts(0), -2);
        due.is("posts(10)", x.posts(10), -2);
        due.is("posts(min)", x.posts(MIN), -2);
        due.is("posts(max)", x.posts(MAX), -2);
        same("posts", x, before);
        refusals("posts", x, 5, 0, 0);
    }

    // 3
    private static void put() {
        WatchSleep x = new WatchSleep();
        due.is("put worth 99", x.put(8, 0, 99), 10);
        due.is("put worth 0", x.put(8, 0, 0), 99);
        due.is("put worth again", x.put(8, 0, 5), 0);
        due.is("put share 99", x.put(0, 1, 99), 1);
        due.is("put share 0", x.put(0, 1, 0), 99);
        due.is("put need 12", x.put(4, 2, 12), 0);
        due.is("put need 0", x.put(4, 2, 0), 12);
        long before = x.digest();
        int[][] bad = {{-1, 0, 1}, {9, 0, 1}, {MIN, 0, 1}, {MAX, 0, 1}, {0, -1, 1}, {0, 3, 1}, {0, MIN, 1}, {0, MAX, 1},
            {0, 0, -1}, {0, 0, 100}, {0, 1, -1}, {0, 1, 100}, {0, 2, -1}, {0, 2, 13}, {0, 2, MIN}, {0, 2, MAX}};
        for (int[] b : bad) {
            due.is("put bad", x.put(b[0], b[1], b[2]), -2);
        }
        same("put", x, before);
        refusals("put", x, bad.length, 0, 0);
    }

    // 4
    private static void captain() {
        WatchSleep x = new WatchSleep();
        due.is("captain(4, 8, 9, 999999)", x.captain(4, 8, 9, 999999), 1);
        due.is("captain(0, 0, 0, 0)", x.captain(0, 0, 0, 0), 1);
        due.is("captain(1, 5, 2, 3)", x.captain(1, 5, 2, 3), 1);
        due.is("captain: 5 + 2", x.asleep(1, 0), 7);
        long before = x.digest();
        int[][] bad = {{-1, 0, 0, 0}, {5, 0, 0, 0}, {0, -1, 0, 0}, {0, 9, 0, 0}, {0, 0, -1, 0}, {0, 0, 10, 0},
            {0, 0, 0, -1}, {0, 0, 0, 1000000}, {MIN, 0, 0, 0}, {0, MAX, 0, 0}, {0, 0, MIN, 0}, {0, 0, 0, MAX}};
        for (int[] b : bad) {
            due.is("captain bad", x.captain(b[0], b[1], b[2], b[3]), -2);
        }
        x.posts(3);
        due.is("captain: start is a post", x.captain(1, 2, 9, 0), 1);
        due.is("captain: start 3 of 3", x.captain(1, 3, 9, 0), -2);
        refusals("captain", x, bad.length + 1, 0, 0);
        x.posts(9);
        x.captain(1, 5, 2, 3);
        same("captain", x, before);
    }

    // 5
    private static void type() {
        WatchSleep x = new WatchSleep();
        // The lowest bytes, the highest of them first: 'p','o','s','t','s',' ','1',';' of a long with all eight.
        due.is("type 8", x.type(0x706f73747320313bL, 8), 8);
        due.is("type reads", x.read(), 1);
        x.clear();
        due.is("type 5 of more", x.type(0x7f7f7f706f737473L, 5), 5);
        due.is("type 1 of more", x.type(0x7f7f7f7f7f7f7f39L, 1), 6);
        due.is("type 1", x.type(';', 1), 7);
        due.is("type reads too", x.read(), 9);
        due.is("type of a negative long", x.type(-1L, 8), 15);
        due.is("type(1, 0)", x.type(1, 0), -2);
        due.is("type(1, 9)", x.type(1, 9), -2);
        due.is("type(1, min)", x.type(1, MIN), -2);
        due.is("type(1, max)", x.type(1, MAX), -2);
        x.clear();
        for (int i = 0; i < 24; i++) {
            x.type(0, 8);
        }
        due.is("type: 192", x.count(3), 192);
        due.is("type: 199", x.type(0, 7), 199);
        due.is("type: full by two", x.type(0, 2), -4);
        due.is("type: full changes nothing", x.count(3), 199);
        due.is("type: 200", x.type(0, 1), 200);
        due.is("type: full", x.type(0, 1), -4);
        due.is("type: bad ahead of full", x.type(0, 9), -2);
        refusals("type", x, 5, 0, 2);
    }

    // 6
    private static void clear() {
        WatchSleep x = new WatchSleep();
        due.is("clear", x.clear(), 0);
        x.type(0, 3);
        due.is("clear 3", x.clear(), 3);
        due.is("clear again", x.clear(), 0);
        refusals("clear", x, 0, 0, 0);
    }

    // 7
    private static void read() {
        WatchSleep x = new WatchSleep();
        x.captain(1, 7, 2, 9);
        x.put(3, 0, 77);
        x.put(0, 2, 4);
        x.tell(0);
        x.sight(0, 0, 1);
        x.thefts(1, 3, 4);
        Due.type(x, "  posts5 ; worth 0 99;share 4  7 ;need 1 12;worth1 0;worth 0 08; ");
        due.is("read", x.read(), 5);
        due.is("read: posts", x.count(0), 5);
        due.is("read: the last one told", x.put(0, 0, 8), 8);
        due.is("read: worth", x.put(1, 0, 0), 0);
        due.is("read: worth not told", x.put(3, 0, 10), 10);
        due.is("read: share", x.put(4, 1, 7), 7);
        due.is("read: share not told", x.put(3, 1, 1), 1);
        due.is("read: need", x.put(1, 2, 12), 12);
        due.is("read: need not told", x.put(0, 2, 0), 0);
        due.is("read: sights", x.count(1), 0);
        due.is("read: hours", x.count(2), 0);
        due.is("read: text stays", x.count(3), 65);
        x.doubt(1);
        due.fraction("read: no thefts", x, "1", "1");
        due.is("read: start is 0, kind and step stay", x.asleep(1, 0), 2);
        refusals("read", x, 0, 0, 0);
    }

    private static void wallFault(String wall, int place) {
        WatchSleep x = new WatchSleep();
        x.posts(6);
        x.captain(1, 5, 1, 1);
        x.put(5, 0, 50);
        x.tell(5);
        x.sight(3, 3, 0);
        x.thefts(5, 1, 1);
        Due.type(x, wall);
        long before = x.digest();
        due.is("read '" + wall + "'", x.read(), -10 - place);
        same("read '" + wall + "'", x, before);
        refusals("read '" + wall + "'", x, 0, 0, 0);
    }

    private static void wallFaults() {
        wallFault("", 0);
        wallFault("   ", 3);
        wallFault("posts", 5);
        wallFault("posts 3", 7);
        wallFault("posts 3 ", 8);
        wallFault("post 3;", 0);
        wallFault("pos", 0);
        wallFault("postss 3;", 0);
        wallFault(" 3;", 1);
        wallFault(";", 0);
        wallFault("Posts 3;", 0);
        wallFault("posts 0;", 6);
        wallFault("posts 10;", 6);
        wallFault("posts 003;", 6);
        wallFault("posts ;", 6);
        wallFault("posts posts;", 6);
        wallFault("posts 3 3;", 8);
        wallFault("posts 3;;", 8);
        wallFault("posts 3;posts 3;", 8);
        wallFault("worth 0 1;posts 3;", 0);
        wallFault("posts 3;worth", 13);
        wallFault("posts 3;worth 0", 15);
        wallFault("posts 3;worth 0 1", 17);
        wallFault("posts 3;worth 0 1  ", 19);
        wallFault("posts 3;worth 3 1;", 14);
        wallFault("posts 3;worth 012 1;", 14);
        wallFault("posts 3;worth 0 100;", 16);
        wallFault("posts 3;worth 0 1 2;", 18);
        wallFault("posts 3;worth 0;", 15);
        wallFault("posts 3;worth ;", 14);
        wallFault("posts 3;need 0 13;", 15);
        wallFault("posts 3;needs 0 1;", 8);
        wallFault("posts 3;shar 0 1;", 8);
        wallFault("posts 3;sharee 0 1;", 8);
        wallFault("posts 3;7;", 8);
        wallFault("posts 3;777;", 8);
        wallFault("posts 3;\tworth 0 1;", 8);
        wallFault("posts 3;worth 0 1;\u00ff", 18);
        wallFault("posts 3;worth 0 -1;", 16);
        wallFault("posts 3;worth 0 1;x", 18);
        WatchSleep x = new WatchSleep();
        Due.type(x, "posts09;need8 12;need 8 0;share 8 99;share 00 00;");
        due.is("a wall of two figures each", x.read(), 9);
        due.is("need", x.put(8, 2, 0), 0);
        due.is("share", x.put(8, 1, 0), 99);
        due.is("share", x.put(0, 1, 0), 0);
        Due.type(x, "posts 1;");
        due.is("the shortest wall", x.read(), 1);
    }

    // 8
    private static void write() {
        WatchSleep x = new WatchSleep();
        due.is("write(128)", x.write(128), -2);
        due.is("write(-1)", x.write(-1), -2);
        due.is("write(min)", x.write(MIN), -2);
        due.is("write(max)", x.write(MAX), -2);
        due.is("write(0)", x.write(0), 1);
        due.is("write(127)", x.write(127), 2);
        for (int i = 3; i <= 40; i++) {
            due.is("write", x.write('1'), i);
        }
        due.is("write: full", x.write('1'), -4);
        due.is("write: bad ahead of full", x.write(128), -2);
        due.is("write: 40 stay", x.count(4), 40);
        refusals("write", x, 5, 0, 1);
    }

    // 9
    private static void erase() {
        WatchSleep x = new WatchSleep();
        due.is("erase", x.erase(), 0);
        Due.write(x, "h+1");
        due.is("erase 3", x.erase(), 3);
        due.is("erase again", x.erase(), 0);
        due.is("erase: empty", x.fault(), 1);
    }

    private static void ruleFault(String rule, int want) {
        WatchSleep x = new WatchSleep();
        Due.write(x, rule);
        due.is("fault of '" + rule + "'", x.fault(), want);
        x.captain(2, 0, 0, 0);
        due.is("asleep by '" + rule + "'", x.asleep(3, 0) == -3 ? 1 : 0, want == -1 ? 0 : 1);
        due.is("refused by '" + rule + "'", x.status(1), want == -1 ? 0 : 1);
    }

    // 10
    private static void fault() {
        ruleFault("", 1);
        ruleFault("   ", 31);
        ruleFault("1", -1);
        ruleFault("  1  ", -1);
        ruleFault("a", 1);
        ruleFault("1+", 21);
        ruleFault("1+ ", 31);
        ruleFault("+1", 1);
        ruleFault("1 2", 21);
        ruleFault("12h", 21);
        ruleFault("h1", 11);
        ruleFault("hh", 11);
        ruleFault("h h", 21);
        ruleFault("123456", -1);
        ruleFault("1234567", 2);
        ruleFault(" 1+1234567+a", 32);
        ruleFault("h1234567", 11);
        ruleFault("123456 7", 71);
        ruleFault("1<2", -1);
        ruleFault("1<2<3", 31);
        ruleFault("1<2 =3", 41);
        ruleFault("(1<2)<3", -1);
        ruleFault("1<(2<3)", -1);
        ruleFault("1<2&3>4|5=6", -1);
        ruleFault("1+2<3*4>1", 71);
        ruleFault("1<<2", 21);
        ruleFault("1<=2", 21);
        ruleFault("()", 11);
        ruleFault("(1", 21);
        ruleFault("(1))", 31);
        ruleFault(")", 1);
        ruleFault("1(", 11);
        ruleFault("1!", 11);
        ruleFault("!", 11);
        ruleFault("!!--!h", -1);
        ruleFault("1--1", -1);
        ruleFault("1-+1", 21);
        ruleFault("1~1", 11);
        ruleFault("~1", 1);
        ruleFault("1*-2", -1);
        ruleFault("1**2", 21);
        ruleFault("1&&1", 21);
        ruleFault("1||1", 21);
        ruleFault("h*n+s-t/l|x", -1);
        ruleFault("H", 1);
        ruleFault("1\t", 11);
        ruleFault("\t1", 1);
        ruleFault("((((((((1))))))))", -1);
        ruleFault("((((((((1)))))))", 161);
        ruleFault("((((((((", 81);
        ruleFault("(((((((((1)))))))))", 83);
        ruleFault("((((((((1(", 91);
        ruleFault("(1)+(((((((( (1))))))))", 133);
        ruleFault("(1)+((((((((1))))))))", -1);
        ruleFault("!(-(!(-(!(-(!(-(1))))))))", -1);
        ruleFault("!(-(!(-(!(-(!(-((1)))))))))", 163);
        WatchSleep x = new WatchSleep();
        for (int i = 0; i < 40; i++) {
            x.write('-');
        }
        due.is("fault of 40 of -", x.fault(), 401);
        refusals("fault", x, 0, 0, 0);
    }

    /** By the RULE alone who sleeps in an hour of nine posts, START 2, STEP 3, SEED 7. */
    private static void ruled(String rule, int hour, int who) {
        WatchSleep x = new WatchSleep();
        x.captain(2, 2, 3, 7);
        Due.write(x, rule);
        due.is("asleep by '" + rule + "' in " + hour, x.asleep(hour, 0), who);
        due.is("lantern by '" + rule + "' in " + hour, x.asleep(hour, 1), who);
    }

    private static void ruleValues() {
        ruled("7", 0, 7);
        ruled("10", 0, 1);
        ruled("-1", 0, 8);
        ruled("-9", 0, 0);
        ruled("0-10", 0, 8);
        ruled("h", 999, 0);
        ruled("h", 998, 8);
        ruled("n-1", 5, 8);
        ruled("s", 5, 2);
        ruled("t", 5, 3);
        ruled("l", 0, 2);
        ruled("l", 999, 2);
        ruled("l+1", 0, 3);
        ruled("l+1", 10, 4);
        ruled("l+h", 4, 3);
        ruled("2+3*2", 0, 8);
        ruled("(2+3)*2", 0, 1);
        ruled("9-3-2", 0, 4);
        ruled("8/2/2", 0, 2);
        ruled("8/2*3", 0, 3);
        ruled("7/2", 0, 3);
        ruled("-7/2", 0, 6);
        ruled("5/0", 0, 0);
        ruled("5/0+4", 0, 4);
        ruled("1<2", 0, 1);
        ruled("2<1", 0, 0);
        ruled("2>1", 0, 1);
        ruled("1>1", 0, 0);
        ruled("3=1+2", 0, 1);
        ruled("3=4", 0, 0);
        ruled("5&7", 0, 1);
        ruled("5&0", 0, 0);
        ruled("0|7", 0, 1);
        ruled("0|0", 0, 0);
        ruled("1|0&0", 0, 1);
        ruled("(1|0)&0", 0, 0);
        ruled("3+(1<2)", 0, 4);
        ruled("0=1<2", 0, -3);
        ruled("1&2=2", 0, 1);
        ruled("!5", 0, 0);
        ruled("!0", 0, 1);
        ruled("!!5", 0, 1);
        ruled("-!0", 0, 8);
        ruled("!-0", 0, 1);
        ruled("!0*5", 0, 5);
        ruled("-2*-3", 0, 6);
        ruled("--4", 0, 4);
        ruled("5--3", 0, 8);
        ruled("- 4 + 6", 0, 2);
        ruled("h>2&h<5|h=7", 3, 1);
        ruled("h>2&h<5|h=7", 5, 0);
        ruled("h>2&h<5|h=7", 7, 1);
        // 999999 to the 4th wraps: 3875820019684212736 + k 2^64; seen by BigInteger below.
        long wrapped = BigInteger.valueOf(999999).pow(4).longValue();
        ruled("999999*999999*999999*999999", 0, (int) Math.floorMod(wrapped, 9L));
        // The SEED 7: hour 0 is (7 * 1103515245 + 12345) mod 2^31 = 1282168116 (cut: 19564), by 9 is 7.
        ruled("x", 0, 7);
        long x0 = (7L * 1103515245L + 12345L) % 2147483648L;
        long x1 = (x0 * 1103515245L + 12345L) % 2147483648L;
        ruled("x", 1, (int) (x1 / 65536 % 9));
        ruled("x/1000", 1, (int) (x1 / 65536 / 1000 % 9));
        ruled("x/1000+l", 1, (int) ((x1 / 65536 / 1000 + (x0 / 65536 / 1000 + 2) % 9) % 9));
    }

    // 11
    private static void asleep() {
        WatchSleep x = Scene.wall(row(1, 1, 1), row(1, 0, 2));
        x.captain(0, 0, 0, 7);
        long draw = 7;
        for (int h = 0; h < 30; h++) {
            draw = (draw * 1103515245L + 12345L) % 2147483648L;
            int who = draw / 65536 % 3 == 0 ? 0 : 2;
            x.captain(0, 1, 5, 7);
            due.is("asleep by lot", x.asleep(h, 0), who);
            due.is("lantern by lot", x.asleep(h, 1), who);
            x.captain(3, 1, 5, 7);
            due.is("asleep shown", x.asleep(h, 0), who);
            due.is("lantern shown", x.asleep(h, 1), who == 2 ? 0 : 1);
            x.captain(1, 1, 5, 7);
            due.is("asleep in turn", x.asleep(h, 0), (1 + 5 * h) % 3);
            due.is("lantern in turn", x.asleep(h, 1), (1 + 5 * h) % 3);
            x.captain(4, 1, 5, 7);
            due.is("asleep lazily", x.asleep(h, 0), (1 + 5 * (h - h % 2)) % 3);
            due.is("lantern lazily", x.asleep(h, 1), (1 + 5 * (h - h % 2)) % 3);
        }
        due.is("asleep(999, 0)", x.asleep(999, 0), (1 + 5 * 998) % 3);
        x = noShares();
        int[] answers = {-3, 1, -3, -3, 1};
        for (int kind = 0; kind <= 4; kind++) {
            x.captain(kind, 1, 0, 0);
            due.is("asleep without shares", x.asleep(4, 0), answers[kind]);
            due.is("lantern without shares", x.asleep(4, 1), answers[kind]);
        }
        x.captain(2, 1, 1, 0);
        Due.write(x, "s+h");
        due.is("a rule needs no shares", x.asleep(4, 0), 1);
        due.is("asleep(-1, 0)", x.asleep(-1, 0), -2);
        due.is("asleep(1000, 0)", x.asleep(1000, 0), -2);
        due.is("asleep(0, -1)", x.asleep(0, -1), -2);
        due.is("asleep(0, 2)", x.asleep(0, 2), -2);
        due.is("asleep(max, min)", x.asleep(MAX, MIN), -2);
        x.captain(0, 0, 0, 0);
        due.is("bad ahead of no", x.asleep(1000, 0), -2);
        refusals("asleep", x, 6, 6, 0);
    }

    // 12
    private static void has() {
        WatchSleep x = Scene.wall(row(10, 99, 0, 6), row(3, 2, 4, 0));
        due.is("has(0)", x.has(0), 1);
        due.fraction("has(0)", x, "10", "3");
        x.has(1);
        due.fraction("has(1)", x, "22", "1");
        x.has(2);
        due.fraction("has(2)", x, "0", "1");
        x.has(3);
        due.fraction("has(3)", x, "0", "1");
        x.has(0);
        due.is("has(-1)", x.has(-1), -2);
        due.is("has(4)", x.has(4), -2);
        due.is("has(max)", x.has(MAX), -2);
        due.fraction("has: refused", x, "10", "3");
        refusals("has", x, 3, 0, 0);
        x = noShares();
        due.is("has without shares", x.has(0), -3);
        due.is("has: bad ahead of no", x.has(2), -2);
        refusals("has", x, 1, 1, 0);
    }

    // 13
    private static void tries() {
        due.is("tries: the least of like ones", new WatchSleep().tries(), 0);
        WatchSleep x = Scene.wall(row(10, 20, 30, 99), row(3, 2, 2, 0));
        due.is("tries", x.tries(), 2);
        x.put(1, 1, 3);
        due.is("tries: 60 and 60", x.tries(), 1);
        due.fraction("tries leaves the fraction", x, "0", "1");
        due.is("tries: all worthless", Scene.wall(row(0, 0), row(1, 2)).tries(), 0);
        x = noShares();
        due.is("tries without shares", x.tries(), -3);
        refusals("tries", x, 0, 1, 0);
    }

    // 14
    private static void two() {
        WatchSleep x = Scene.wall(row(10, 20, 30, 99), row(3, 2, 2, 0));
        due.is("two", x.two(), 12);
        due.fraction("two", x, "100", "7");
        x.put(0, 0, 20);
        // 60, 40, 60, 0
        due.is("two: 60 and 60", x.two(), 2);
        x.put(1, 1, 3);
        // 60, 60, 60, 0
        due.is("two: the first", x.two(), 1);
        due.fraction("two", x, "15", "1");
        due.is("two of last posts", Scene.wall(row(1, 1, 1, 1, 1, 1, 1, 9, 9), row(1, 1, 1, 1, 1, 1, 1, 1, 1)).two(), 78);
        x = Scene.wall(row(0, 0), row(1, 1));
        due.is("two worthless", x.two(), 1);
        due.fraction("two worthless", x, "0", "1");
        x.posts(1);
        due.is("two of one", x.two(), -3);
        due.is("two without shares", noShares().two(), -3);
        refusals("two", x, 0, 1, 0);
    }

    // 15
    private static void ladder() {
        WatchSleep x = Scene.wall(row(10, 20, 30, 0), row(3, 2, 1, 4));
        due.is("ladder(1)", x.ladder(1), 1);
        due.fraction("ladder(1)", x, "4", "1");
        x.ladder(2);
        due.fraction("ladder(2)", x, "9", "10");
        x.ladder(9);
        due.fraction("ladder(9)", x, "19683", "100000000");
        x = Scene.wall(row(97, 99, 1), row(97, 99, 1));
        x.ladder(9);
        BigInteger above = BigInteger.valueOf(99).pow(10);
        BigInteger below = BigInteger.valueOf(197).pow(9);
        due.fraction("ladder of large ones", x, above, below);
        x = Scene.wall(row(1, 99, 1, 1, 1, 1, 1, 1, 1), row(99, 99, 99, 99, 99, 99, 99, 99, 99));
        x.ladder(9);
        due.fraction("ladder in lowest terms", x, "11", "43046721");
        x = Scene.wall(row(99, 99), row(99, 0));
        x.ladder(9);
        due.fraction("a sure ladder", x, "99", "1");
        x = Scene.wall(row(0, 7), row(5, 0));
        x.ladder(3);
        due.fraction("ladder of nothing", x, "0", "1");
        due.is("ladder(0)", x.ladder(0), -2);
        due.is("ladder(10)", x.ladder(10), -2);
        due.is("ladder(min)", x.ladder(MIN), -2);
        refusals("ladder", x, 3, 0, 0);
        x = noShares();
        due.is("ladder without shares", x.ladder(1), -3);
        due.is("ladder: bad ahead of no", x.ladder(10), -2);
        refusals("ladder", x, 1, 1, 0);
    }

    // 16
    private static void knows() {
        WatchSleep x = Scene.wall(row(10, 20, 30, 0), row(3, 2, 1, 4));
        due.is("knows", x.knows(), 1);
        due.fraction("knows", x, "6", "1");
        x = new WatchSleep();
        x.knows();
        due.fraction("knows at first", x, "80", "9");
        x.posts(1);
        x.knows();
        due.fraction("knows one", x, "0", "1");
        x = noShares();
        due.is("knows without shares", x.knows(), -3);
        refusals("knows", x, 0, 1, 0);
    }

    // 17
    private static void best() {
        WatchSleep x = Scene.wall(row(10, 20, 30, 0), row(0, 0, 0, 0));
        due.is("best(1)", x.best(1), 1);
        due.fraction("best(1)", x, "0", "1");
        x.best(2);
        due.fraction("best(2)", x, "60", "11");
        x.best(3);
        due.fraction("best(3)", x, "12", "1");
        x.best(4);
        due.fraction("best(4)", x, "30", "1");
        x = Scene.wall(row(7, 7, 7), row(1, 1, 1));
        x.best(2);
        due.fraction("best of like ones", x, "14", "3");
        x.best(3);
        due.fraction("best of all", x, "7", "1");
        x = Scene.wall(row(1, 99), row(1, 1));
        x.best(1);
        due.fraction("best of 1 and 99", x, "99", "100");
        x.posts(1);
        x.put(0, 0, 42);
        x.best(1);
        due.fraction("best of one", x, "42", "1");
        x = Scene.wall(row(99, 98, 97, 95, 94, 93, 91, 89, 80), row(1, 1, 1, 1, 1, 1, 1, 1, 1));
        x.best(8);
        // 8 by all nine inverses is above 80: that post is sure, the others share 7.
        BigInteger product = BigInteger.ONE;
        int[] worths = {99, 98, 97, 95, 94, 93, 91, 89};
        for (int w : worths) {
            product = product.multiply(BigInteger.valueOf(w));
        }
        BigInteger sum = BigInteger.ZERO;
        for (int w : worths) {
            sum = sum.add(product.divide(BigInteger.valueOf(w)));
        }
        BigInteger above = product.multiply(BigInteger.valueOf(7));
        BigInteger common = above.gcd(sum);
        due.fraction("best of large ones", x, above.divide(common), sum.divide(common));
        due.is("best(0)", x.best(0), -2);
        due.is("best(10)", x.best(10), -2);
        x.posts(3);
        due.is("best(4) of 3", x.best(4), -2);
        due.is("best(min)", x.best(MIN), -2);
        refusals("best", x, 4, 0, 0);
    }

    // 18
    private static void chance() {
        WatchSleep x = Scene.wall(row(10, 20, 30, 0, 0), row(0, 0, 0, 0, 0));
        String[][] wants = {{"0", "0", "0", "1/2", "1/2"}, {"0", "0", "0", "1", "1"}, {"6/11", "3/11", "2/11", "1", "1"},
            {"1", "3/5", "2/5", "1", "1"}, {"1", "1", "1", "1", "1"}};
        for (int a = 1; a <= 5; a++) {
            for (int p = 0; p < 5; p++) {
                String want = wants[a - 1][p];
                int cut = want.indexOf('/');
                due.is("chance", x.chance(a, p), 1);
                due.fraction("chance(" + a + ", " + p + ")", x, cut < 0 ? want : want.substring(0, cut),
                    cut < 0 ? "1" : want.substring(cut + 1));
            }
        }
        x = Scene.wall(row(0, 0, 0, 5), row(1, 1, 1, 1));
        x.chance(2, 1);
        due.fraction("chance of worthless ones", x, "2", "3");
        x.chance(2, 3);
        due.fraction("chance of another", x, "0", "1");
        int[][] bad = {{0, 0}, {5, 0}, {1, -1}, {1, 4}, {MIN, 0}, {1, MAX}};
        for (int[] b : bad) {
            due.is("chance bad", x.chance(b[0], b[1]), -2);
        }
        refusals("chance", x, bad.length, 0, 0);
    }

    // 19
    private static void duke() {
        WatchSleep x = Scene.wall(row(10, 20, 30, 0), row(1, 1, 1, 1));
        // BEST: 0, 60/11, 12, 30
        due.is("duke(0)", x.duke(0), 1);
        due.is("duke(5)", x.duke(5), 1);
        due.is("duke(6)", x.duke(6), 2);
        due.is("duke(7)", x.duke(7), 3);
        due.is("duke(17)", x.duke(17), 3);
        due.is("duke(18): 30 both", x.duke(18), 3);
        due.is("duke(19)", x.duke(19), 4);
        due.is("duke(99)", x.duke(99), 4);
        x = Scene.wall(row(6, 6, 6), row(1, 1, 1));
        due.is("duke: 2, 4, 6 and 2 each are like", x.duke(2), 1);
        due.is("duke(1)", x.duke(1), 1);
        due.is("duke(3)", x.duke(3), 3);
        due.fraction("duke leaves the fraction", x, "0", "1");
        x = Scene.wall(row(3, 4), row(1, 1));
        // BEST: 12/7, 4
        due.is("duke: 3 5/7, 4", x.duke(2), 1);
        due.is("duke: 4 5/7, 4", x.duke(3), 2);
        x = Scene.wall(row(2, 3, 5), row(1, 1, 1));
        // BEST: 30/31, 60/31, 5
        due.is("duke: 2 30/31, 2 29/31, 5", x.duke(1), 2);
        x.posts(1);
        due.is("duke of one", x.duke(99), 1);
        due.is("duke(-1)", x.duke(-1), -2);
        due.is("duke(100)", x.duke(100), -2);
        due.is("duke(max)", x.duke(MAX), -2);
        refusals("duke", x, 3, 0, 0);
    }

    // 20
    private static void creak() {
        WatchSleep x = Scene.wall(row(1, 1, 1), row(1, 2, 5));
        due.is("creak", x.creak(3, 8, 1), 1);
        due.fraction("creak: 24 of 29", x, "24", "29");
        x.creak(7, 1, 10);
        due.fraction("creak of all", x, "1", "1");
        x.creak(0, 10, 1);
        due.fraction("creak of none", x, "0", "1");
        x.creak(1, 0, 3);
        due.fraction("creak never rightly", x, "0", "1");
        x.creak(4, 10, 0);
        due.fraction("creak never falsely", x, "1", "1");
        x.creak(5, 10, 10);
        due.fraction("creak tells nothing", x, "3", "4");
        due.is("creak never", x.creak(5, 0, 0), -3);
        due.is("creak of none never", x.creak(0, 10, 0), -3);
        due.is("creak of all never", x.creak(7, 0, 10), -3);
        due.fraction("creak: refused", x, "3", "4");
        int[][] bad = {{-1, 1, 1}, {8, 1, 1}, {1, -1, 1}, {1, 11, 1}, {1, 1, -1}, {1, 1, 11}, {MIN, 1, 1}, {MAX, 1, 1},
            {1, MAX, 1}, {1, 1, MIN}};
        for (int[] b : bad) {
            due.is("creak bad", x.creak(b[0], b[1], b[2]), -2);
        }
        refusals("creak", x, bad.length, 3, 0);
        due.is("creak without shares", noShares().creak(1, 5, 5), -3);
        due.is("creak: bad ahead of no", noShares().creak(4, 5, 5), -2);
        x.posts(9);
        due.is("creak(511)", x.creak(511, 1, 1), 1);
        due.is("creak(512)", x.creak(512, 1, 1), -2);
    }

    // 21
    private static void nights() {
        WatchSleep x = new WatchSleep();
        due.is("nights: nobody", x.nights(), 1);
        x.put(0, 2, 1);
        due.is("nights: one hour", x.nights(), 12);
        x.put(0, 2, 12);
        due.is("nights: all hours", x.nights(), 1);
        x.put(8, 2, 1);
        due.is("nights: 13", x.nights(), -3);
        x.put(0, 2, 11);
        due.is("nights: 11 and 1", x.nights(), 2);
        for (int p = 0; p < 9; p++) {
            x.put(p, 2, 1);
        }
        due.is("nights: 12! by 3!", x.nights(), 79833600);
        x.put(0, 2, 4);
        due.is("nights: 9!", x.nights(), 362880);
        refusals("nights", x, 0, 1, 0);
    }

    // 22
    private static void night() {
        WatchSleep x = new WatchSleep();
        x.posts(3);
        x.put(0, 2, 5);
        x.put(2, 2, 6);
        // One hour of nobody, A = five of 0, B = six of 2: -AB -BA A-B AB- B-A BA-
        String[] nights = {"-00000222222", "-22222200000", "00000-222222", "00000222222-", "222222-00000", "22222200000-"};
        due.is("night: how many", x.nights(), nights.length);
        for (int i = 0; i < nights.length; i++) {
            for (int h = 0; h < 12; h++) {
                char who = nights[i].charAt(h);
                due.is("night(" + i + ", " + h + ")", x.night(i, h), who == '-' ? -1 : who - '0');
            }
        }
        due.is("night: not so many", x.night(6, 0), -5);
        due.is("night: far from so many", x.night(Long.MAX_VALUE, 11), -5);
        due.is("night(-1, 0)", x.night(-1, 0), -10);
        due.is("night(min, 0)", x.night(Long.MIN_VALUE, 0), -10);
        due.is("night(0, -1)", x.night(0, -1), -10);
        due.is("night(0, 12)", x.night(0, 12), -10);
        x.put(1, 2, 2);
        due.is("night: no", x.night(0, 0), -3);
        due.is("night: bad ahead of no", x.night(0, MAX), -10);
        refusals("night", x, 5, 1, 0);
    }

    // 23
    private static void tell() {
        WatchSleep x = new WatchSleep();
        x.posts(4);
        due.is("tell(4)", x.tell(4), -10);
        due.is("tell(-2)", x.tell(-2), -10);
        due.is("tell(min)", x.tell(MIN), -10);
        due.is("tell(max)", x.tell(MAX), -10);
        for (int h = 1; h <= 12; h++) {
            due.is("tell", x.tell(h % 5 - 1), h);
        }
        due.is("tell: full", x.tell(0), -4);
        due.is("tell: bad ahead of full", x.tell(4), -10);
        due.is("tell: 12", x.count(2), 12);
        refusals("tell", x, 5, 0, 1);
    }

    // 24
    private static void forget() {
        WatchSleep x = new WatchSleep();
        due.is("forget", x.forget(), 0);
        x.tell(3);
        x.tell(-1);
        due.is("forget two", x.forget(), 2);
        due.is("forget again", x.forget(), 0);
        due.is("forget: none is told", x.count(2), 0);
    }

    private static void judged(String told, int want) {
        WatchSleep x = new WatchSleep();
        x.put(0, 2, 2);
        x.put(1, 2, 3);
        x.put(8, 2, 1);
        for (int i = 0; i < told.length(); i++) {
            x.tell(told.charAt(i) == '-' ? -1 : told.charAt(i) - '0');
        }
        due.is("judge " + told, x.judge(), want);
        refusals("judge", x, 0, 0, 0);
    }

    // 25
    private static void judge() {
        judged("", -1);
        judged("0", -1);
        judged("00", -1);
        judged("000", 2);
        judged("01", 1);
        judged("0-", 1);
        judged("00-0", 3);
        judged("2", 0);
        judged("8", -1);
        judged("88", 1);
        judged("------", -1);
        judged("-------", 6);
        judged("------001118", -1);
        judged("00-111---8--", -1);
        judged("00-11---8---", 5);
        judged("111008------", -1);
        judged("-----00111-8", -1);
        judged("-----00111--", 11);
        judged("11108-", 4);
        WatchSleep x = new WatchSleep();
        x.put(0, 2, 12);
        x.put(1, 2, 1);
        due.is("judge: nothing told, no night", x.judge(), -1);
        x.tell(0);
        due.is("judge: no night", x.judge(), 0);
        x.put(1, 2, 0);
        due.is("judge: needs as they are now", x.judge(), -1);
    }

    // 26
    private static void sight() {
        WatchSleep x = new WatchSleep();
        x.posts(3);
        int[][] bad = {{-1, 0, 0}, {1000, 0, 0}, {0, -1, 0}, {0, 3, 0}, {0, 0, -1}, {0, 0, 2}, {MIN, 0, 0}, {0, MAX, 0},
            {0, 0, MIN}};
        for (int[] b : bad) {
            due.is("sight bad", x.sight(b[0], b[1], b[2]), -2);
        }
        for (int i = 0; i < 12; i++) {
            due.is("sight", x.sight(999 - i, i % 3, i % 2), i);
        }
        due.is("sight: full", x.sight(0, 0, 0), -4);
        due.is("sight: bad ahead of full", x.sight(1000, 0, 0), -2);
        due.is("sight: 12", x.count(1), 12);
        refusals("sight", x, bad.length + 1, 0, 1);
    }

    // 27
    private static void blind() {
        WatchSleep x = new WatchSleep();
        due.is("blind", x.blind(), 0);
        x.sight(0, 0, 1);
        x.sight(0, 1, 1);
        due.is("blind: none agrees", x.rounds(0), 0);
        due.is("blind two", x.blind(), 2);
        due.is("blind: all agree", x.rounds(0), 81);
        due.is("blind again", x.blind(), 0);
    }

    // 28
    private static void rounds() {
        WatchSleep x = new WatchSleep();
        due.is("rounds: all", x.rounds(0), 81);
        due.is("rounds: the first", x.rounds(1), 0);
        x.sight(0, 4, 1);
        due.is("rounds: start 4", x.rounds(0), 9);
        due.is("rounds: the first", x.rounds(1), 40);
        x.sight(999, 4, 1);
        due.is("rounds: 999 is 111 times 9", x.rounds(0), 9);
        x.sight(1, 4, 0);
        due.is("rounds: step is not 0", x.rounds(0), 8);
        due.is("rounds: the first", x.rounds(1), 41);
        x.sight(3, 4, 1);
        due.is("rounds: steps 3, 6", x.rounds(0), 2);
        due.is("rounds: the first", x.rounds(1), 43);
        x.sight(1, 1, 1);
        due.is("rounds: step 6", x.rounds(0), 1);
        due.is("rounds: the first", x.rounds(1), 46);
        x.sight(1, 1, 0);
        due.is("rounds: none", x.rounds(0), 0);
        due.is("rounds: no first", x.rounds(1), -1);
        due.is("rounds(-1)", x.rounds(-1), -2);
        due.is("rounds(2)", x.rounds(2), -2);
        due.is("rounds(min)", x.rounds(MIN), -2);
        refusals("rounds", x, 3, 0, 0);
    }

    // 29
    private static void soon() {
        WatchSleep x = new WatchSleep();
        x.posts(1);
        due.is("soon of one", x.soon(0), 0);
        x.posts(2);
        x.captain(0, 0, 0, 0);
        due.is("soon: there in 0, 1", x.soon(0), 1);
        due.is("soon: the other", x.soon(1), 1);
        x.captain(0, 0, 1, 0);
        due.is("soon: there in 0 alone", x.soon(0), 1);
        x.posts(5);
        x.captain(1, 3, 0, 0);
        // Never at 0: starts 1 .. 4 with step 0 all look so.
        due.is("soon: none", x.soon(0), -1);
        due.is("soon: always at 3", x.soon(3), 1);
        x.captain(1, 0, 1, 0);
        // At 2 in hour 2 of 5: START + 2 STEP is 2: five pairs, (2, 0) is there ahead: (0,1) (1,3) (3,2) (4,4) stay.
        due.is("soon: none by one hour of five", x.soon(2), -1);
        x.sight(0, 0, 1);
        x.sight(1, 1, 1);
        due.is("soon: sights tell nothing here", x.soon(2), -1);
        x.posts(6);
        x.captain(4, 1, 9, 0);
        due.is("soon: STEP 9 is as 3", x.soon(1), 2);
        due.is("soon: at 4 in odd hours", x.soon(4), 3);
        due.is("soon(-1)", x.soon(-1), -2);
        due.is("soon(6)", x.soon(6), -2);
        due.is("soon(max)", x.soon(MAX), -2);
        refusals("soon", x, 3, 0, 0);
    }

    // 30
    private static void thefts() {
        WatchSleep x = new WatchSleep();
        x.posts(2);
        due.is("thefts", x.thefts(1, 40, 40), 1);
        x.doubt(1);
        due.fraction("thefts: 40 of 40", x, BigInteger.ONE, BigInteger.ONE.shiftLeft(40));
        due.is("thefts again", x.thefts(1, 1, 1), 1);
        x.doubt(1);
        due.fraction("thefts: 1 of 1", x, "1", "2");
        long before = x.digest();
        int[][] bad = {{-1, 0, 0}, {2, 0, 0}, {0, -1, 0}, {0, 2, 1}, {0, 0, 41}, {0, 41, 41}, {0, 0, -1}, {MIN, 0, 0},
            {0, MIN, 0}, {0, MAX, MAX}, {0, 0, MAX}};
        for (int[] b : bad) {
            due.is("thefts bad", x.thefts(b[0], b[1], b[2]), -2);
        }
        same("thefts", x, before);
        refusals("thefts", x, bad.length, 0, 0);
    }

    // 31
    private static void doubt() {
        WatchSleep x = Scene.wall(row(1, 1, 1), row(2, 1, 0));
        due.is("doubt", x.doubt(0), 1);
        due.fraction("doubt of nothing", x, "1", "1");
        x.thefts(0, 2, 3);
        x.doubt(0);
        // 3 * 4/9 * 1/3 + 8/27 = 20/27
        due.fraction("doubt 2 of 3 by 2/3", x, "20", "27");
        x.thefts(1, 1, 2);
        x.doubt(1);
        due.fraction("doubt 1 of 2 by 1/3", x, "5", "9");
        x.thefts(1, 0, 40);
        x.doubt(1);
        due.fraction("doubt 0 of 40", x, "1", "1");
        x.thefts(2, 1, 40);
        x.doubt(2);
        due.fraction("doubt of no share", x, "0", "1");
        x.thefts(2, 0, 40);
        x.doubt(2);
        due.fraction("doubt of no share, no theft", x, "1", "1");
        // 3 of 4 by 1/3: (4*2 + 1)/81 = 1/9
        x.thefts(1, 3, 4);
        x.doubt(1);
        due.fraction("doubt in lowest terms", x, "1", "9");
        WatchSleep sure = Scene.wall(row(1, 1), row(99, 0));
        sure.thefts(0, 40, 40);
        sure.doubt(0);
        due.fraction("doubt of a sure one", sure, "1", "1");
        WatchSleep large = Scene.wall(row(1, 1, 1, 1, 1, 1, 1, 1, 1), row(99, 98, 99, 99, 99, 99, 99, 99, 99));
        large.thefts(1, 40, 40);
        large.doubt(1);
        BigInteger common = BigInteger.valueOf(2).pow(40);
        due.fraction("doubt of large ones", large, BigInteger.valueOf(98).pow(40).divide(common),
            BigInteger.valueOf(890).pow(40).divide(common));
        // Of 40 all, or all but one of 40: 98^40 + 40 * 98^39 * 792 by 890^40.
        large.thefts(1, 39, 40);
        large.doubt(1);
        BigInteger above = BigInteger.valueOf(40 * 792 + 98).multiply(BigInteger.valueOf(98).pow(39));
        BigInteger below = BigInteger.valueOf(890).pow(40);
        common = above.gcd(below);
        due.fraction("doubt of two terms", large, above.divide(common), below.divide(common));
        due.is("doubt(-1)", x.doubt(-1), -2);
        due.is("doubt(3)", x.doubt(3), -2);
        due.is("doubt(max)", x.doubt(MAX), -2);
        due.fraction("doubt: refused", x, "1", "9");
        refusals("doubt", x, 3, 0, 0);
        x = noShares();
        due.is("doubt without shares", x.doubt(0), -3);
        due.is("doubt: bad ahead of no", x.doubt(2), -2);
    }

    // 32
    private static void spy() {
        WatchSleep x = Scene.wall(row(1, 1, 1), row(2, 1, 1));
        due.is("spy: the least of like ones", x.spy(), 0);
        due.fraction("spy: nothing told", x, "1", "1");
        x.thefts(0, 2, 2);
        x.thefts(1, 1, 1);
        x.thefts(2, 1, 1);
        due.is("spy: 1/4 by all", x.spy(), 0);
        due.fraction("spy", x, "1", "4");
        x.thefts(0, 1, 1);
        due.is("spy: 1/2, 1/4, 1/4", x.spy(), 1);
        x.thefts(2, 40, 40);
        due.is("spy: 1/4^40", x.spy(), 2);
        due.fraction("spy", x, BigInteger.ONE, BigInteger.ONE.shiftLeft(80));
        x.put(1, 1, 0);
        x.put(0, 1, 3);
        x.thefts(1, 1, 40);
        due.is("spy: 0", x.spy(), 1);
        due.fraction("spy", x, "0", "1");
        x = noShares();
        due.is("spy without shares", x.spy(), -3);
        refusals("spy", x, 0, 1, 0);
    }

    // 33
    private static void sign() {
        WatchSleep x = new WatchSleep();
        due.is("sign(0) of 0", x.sign(0), 0);
        due.is("sign(1) of 0", x.sign(1), 0);
        due.is("sign(2) of 0", x.sign(2), 1);
        x.thefts(0, 40, 40);
        x.doubt(0);
        due.is("sign(0) of 1 by 9^40", x.sign(0), 1);
        due.is("sign(1) of 1 by 9^40", x.sign(1), 1);
        due.is("sign(2) of 1 by 9^40", x.sign(2), 5);
        due.is("sign(-1)", x.sign(-1), -2);
        due.is("sign(3)", x.sign(3), -2);
        due.is("sign(min)", x.sign(MIN), -2);
        refusals("sign", x, 3, 0, 0);
    }

    // 34
    private static void limb() {
        WatchSleep x = new WatchSleep();
        due.is("limb(0, 0) of 0", x.limb(0, 0), -1);
        due.is("limb(1, 0) of 0", x.limb(1, 0), 1);
        x.posts(2);
        x.thefts(0, 30, 30);
        x.doubt(0);
        due.is("limb(1, 0) of 2^30", x.limb(1, 0), 0);
        due.is("limb(1, 1) of 2^30", x.limb(1, 1), 1);
        due.is("limb(1, 2) of 2^30", x.limb(1, 2), -1);
        due.is("limb(0, 0) of 1", x.limb(0, 0), 1);
        due.is("limb(0, max)", x.limb(0, MAX), -1);
        due.is("limb(-1, 0)", x.limb(-1, 0), -2);
        due.is("limb(2, 0)", x.limb(2, 0), -2);
        due.is("limb(0, -1)", x.limb(0, -1), -2);
        due.is("limb(1, min)", x.limb(1, MIN), -2);
        refusals("limb", x, 4, 0, 0);
    }

    private static WatchSleep full() {
        WatchSleep x = Scene.wall(row(1, 2, 3, 4), row(5, 6, 7, 8));
        x.put(2, 2, 3);
        x.captain(3, 2, 7, 1234);
        Due.write(x, "l+1");
        x.tell(2);
        x.tell(-1);
        x.sight(9, 3, 1);
        x.thefts(1, 2, 4);
        return x;
    }

    // 35
    private static void image() {
        WatchSleep x = full();
        long before = x.digest();
        due.is("image(1)", x.image(1), 1);
        same("image changes nothing", x, before);
        due.is("image(0)", x.image(0), 1);
        due.is("image(0) again", x.image(0), 1);
        due.is("image(-1)", x.image(-1), -2);
        due.is("image(2)", x.image(2), -2);
        due.is("image(max)", x.image(MAX), -2);
        refusals("image", x, 3, 0, 0);
    }

    // 36
    private static void from() {
        WatchSleep x = full();
        due.is("from: none was kept", x.from(1), -3);
        long kept = x.digest();
        x.image(1);
        due.is("from: another one", x.from(0), -3);
        x.put(0, 0, 99);
        x.put(0, 1, 98);
        x.put(0, 2, 2);
        x.thefts(0, 3, 3);
        x.captain(2, 1, 1, 1);
        x.write('9');
        x.tell(1);
        x.sight(1, 1, 1);
        x.image(0);
        long other = x.digest();
        x.posts(9);
        due.is("from(1)", x.from(1), 1);
        same("from(1)", x, kept);
        Due.write(x, "n-h/2");
        x.forget();
        x.tell(3);
        x.tell(0);
        x.tell(0);
        x.blind();
        x.sight(8, 2, 0);
        x.sight(7, 0, 0);
        due.is("from(0)", x.from(0), 1);
        same("from(0)", x, other);
        due.is("from(1) again", x.from(1), 1);
        same("from(1) again", x, kept);
        Due.type(x, "abcd");
        x.has(0);
        due.fraction("has(0)", x, "5", "26");
        due.is("from(0) keeps the rest", x.from(0), 1);
        due.is("from: the text stays", x.count(3), 4);
        due.fraction("from: the fraction stays", x, "5", "26");
        due.is("from(-1)", x.from(-1), -2);
        due.is("from(2)", x.from(2), -2);
        due.is("from(min)", x.from(MIN), -2);
        refusals("from: the status stays", x, 3, 2, 0);
    }

    // 37
    private static void status() {
        WatchSleep x = new WatchSleep();
        refusals("status", x, 0, 0, 0);
        x.posts(0);
        x.from(0);
        x.from(1);
        for (int i = 0; i < 43; i++) {
            x.write(' ');
        }
        refusals("status", x, 1, 2, 3);
        due.is("status(3)", x.status(3), -1);
        due.is("status(-1)", x.status(-1), -1);
        due.is("status(max)", x.status(MAX), -1);
        due.is("status(min)", x.status(MIN), -1);
        refusals("status counts itself", x, 5, 2, 3);
        x.tell(99);
        x.night(-1, 0);
        x.judge();
        x.rounds(1);
        x.night(1, 0);
        x.read();
        x.limb(0, 0);
        x.fault();
        refusals("status: -10 counts, -5, NONE and FAULTS do not", x, 7, 2, 3);
    }

    // 38
    private static void count() {
        WatchSleep x = full();
        x.type(0, 6);
        int[] wants = {4, 1, 2, 6, 3};
        for (int what = 0; what < 5; what++) {
            due.is("count " + what, x.count(what), wants[what]);
        }
        due.is("count(-1)", x.count(-1), -2);
        due.is("count(5)", x.count(5), -2);
        due.is("count(min)", x.count(MIN), -2);
        refusals("count", x, 3, 0, 0);
    }

    // 39
    private static void digest() {
        WatchSleep x = full();
        x.type(0, 6);
        x.has(0);
        long[] values = {4, 1, 2, 6, 3,
            1, 5, 0, 0, 0, 2, 6, 0, 2, 4, 3, 7, 3, 0, 0, 4, 8, 0, 0, 0,
            3, 2, 7, 1234, 9, 3, 1, 2, -1, 'l', '+', '1', 1, 1, 1, 5, 26};
        long h = 739;
        for (long v : values) {
            h = 31 * h + v;
        }
        due.is("digest", x.digest(), h);
        due.is("digest again", x.digest(), h);
    }
}
