import java.util.Random;

/** Runs of drawn calls on a WatchSleep and on an Oracle: all answers are to be the same. */
public final class OracleTest {
    private static final int[] EXTREMES = {Integer.MIN_VALUE, Integer.MAX_VALUE, -3, -2, -1, 0, 1, 9, 10, 13, 40, 41, 100,
        512, 1000, 1000000};
    /** The dearest of the drawn ones, a rule, makes some fifty more. */
    private static final int MOST_CALLS = 450;
    private static final String RULE_SIGNS = "hnstlx0123456789()|&<>=+-*/!  ()-!hl";

    private final Due due;
    private final Random random;
    private final int run;
    private final WatchSleep x = new WatchSleep();
    private final Oracle o = new Oracle();
    private int made;

    private OracleTest(Due due, int run) {
        this.due = due;
        this.run = run;
        this.random = new Random(run);
    }

    /** The argument, if there is one, says how many runs. */
    public static void main(String[] args) {
        int runs = args.length > 0 ? Integer.parseInt(args[0]) : 600;
        Due due = new Due("OracleTest");
        for (int run = 0; run < runs; run++) {
            new OracleTest(due, run).calls();
        }
        due.end();
    }

    /** Nothing is promised of an object beyond its 512th call. */
    private void calls() {
        if (random.nextInt(2) == 0) {
            int n = 1 + random.nextInt(9);
            is("posts(" + n + ")", x.posts(n), o.posts(n));
        }
        for (int i = 0; made < MOST_CALLS; i++) {
            one(random.nextInt(45));
            if (i % 8 == 0) {
                is("digest()", x.digest(), o.digest());
            }
        }
        for (int what = 0; what < 3; what++) {
            is("status(" + what + ")", x.status(what), o.status(what));
        }
    }

    private void is(String call, long got, long want) {
        made++;
        due.is("run " + run + ": " + call, got, want);
    }

    /** Mostly low to high, at times just beside, at times far away. */
    private int some(int low, int high) {
        int kind = random.nextInt(40);
        if (kind == 0) {
            return EXTREMES[random.nextInt(EXTREMES.length)];
        }
        if (kind == 1) {
            return low - 1;
        }
        if (kind == 2) {
            return high + 1;
        }
        return kind < 6 ? high : kind < 9 ? low : low + random.nextInt(high - low + 1);
    }

    private int somePost() {
        return some(0, Math.max(0, o.s.posts.size() - 1));
    }

    private void one(int which) {
        switch (which) {
            case 0:
                if (random.nextInt(6) == 0) {
                    int n = some(1, 9);
                    is("posts(" + n + ")", x.posts(n), o.posts(n));
                }
                break;
            case 1:
            case 2:
            case 3:
            case 4: {
                int p = somePost();
                int what = some(0, 2);
                int v = what == 2 ? some(0, random.nextInt(4) == 0 ? 12 : 3) : some(0, random.nextBoolean() ? 99 : 4);
                is("put(" + p + ", " + what + ", " + v + ")", x.put(p, what, v), o.put(p, what, v));
                break;
            }
            case 5:
            case 6: {
                int kind = some(0, 4);
                int start = somePost();
                int step = some(0, 9);
                int seed = some(0, 999999);
                is("captain(" + kind + ", " + start + ", " + step + ", " + seed + ")", x.captain(kind, start, step, seed),
                    o.captain(kind, start, step, seed));
                break;
            }
            case 7: {
                long v = random.nextLong();
                int n = some(1, 8);
                is("type(" + v + ", " + n + ")", x.type(v, n), o.type(v, n));
                break;
            }
            case 8:
                is("clear()", x.clear(), o.clear());
                break;
            case 9:
                is("read()", x.read(), o.read());
                break;
            case 10:
            case 11:
                aWall();
                break;
            case 12: {
                int c = random.nextInt(3) == 0 ? some(0, 127) : RULE_SIGNS.charAt(random.nextInt(RULE_SIGNS.length()));
                is("write(" + c + ")", x.write(c), o.write(c));
                is("fault()", x.fault(), o.fault());
                break;
            }
            case 13:
                is("erase()", x.erase(), o.erase());
                break;
            case 14:
            case 15:
                aRule();
                break;
            case 16:
            case 17: {
                int hour = random.nextInt(3) > 0 ? some(0, 20) : some(0, 999);
                int what = some(0, 1);
                is("asleep(" + hour + ", " + what + ")", x.asleep(hour, what), o.asleep(hour, what));
                break;
            }
            default:
                another(which);
                break;
        }
    }

    private void another(int which) {
        switch (which) {
            case 18: {
                int p = somePost();
                is("has(" + p + ")", x.has(p), o.has(p));
                break;
            }
            case 19:
                is("tries()", x.tries(), o.tries());
                break;
            case 20:
                is("two()", x.two(), o.two());
                break;
            case 21: {
                int l = some(1, 9);
                is("ladder(" + l + ")", x.ladder(l), o.ladder(l));
                break;
            }
            case 22:
                is("knows()", x.knows(), o.knows());
                break;
            case 23: {
                int a = some(1, o.s.posts.size());
                is("best(" + a + ")", x.best(a), o.best(a));
                break;
            }
            case 24: {
                int a = some(1, o.s.posts.size());
                int p = somePost();
                is("chance(" + a + ", " + p + ")", x.chance(a, p), o.chance(a, p));
                break;
            }
            case 25: {
                int pay = random.nextBoolean() ? some(0, 99) : some(0, 12);
                is("duke(" + pay + ")", x.duke(pay), o.duke(pay));
                break;
            }
            case 26: {
                int posts = some(0, (1 << o.s.posts.size()) - 1);
                int u = some(0, 10);
                int v = some(0, 10);
                is("creak(" + posts + ", " + u + ", " + v + ")", x.creak(posts, u, v), o.creak(posts, u, v));
                break;
            }
            case 27:
                is("nights()", x.nights(), o.nights());
                break;
            case 28:
            case 29:
                aNight();
                break;
            case 30:
                tellSome();
                break;
            case 31:
                is("forget()", x.forget(), o.forget());
                break;
            case 32:
                is("judge()", x.judge(), o.judge());
                break;
            case 33: {
                int hour = random.nextBoolean() ? some(0, 999) : some(0, 9);
                int p = somePost();
                int asleep = some(0, 1);
                is("sight(" + hour + ", " + p + ", " + asleep + ")", x.sight(hour, p, asleep), o.sight(hour, p, asleep));
                break;
            }
            default:
                last(which);
                break;
        }
    }

    private void last(int which) {
        switch (which) {
            case 34:
                is("blind()", x.blind(), o.blind());
                break;
            case 35: {
                int what = some(0, 1);
                is("rounds(" + what + ")", x.rounds(what), o.rounds(what));
                break;
            }
            case 36: {
                int p = somePost();
                is("soon(" + p + ")", x.soon(p), o.soon(p));
                break;
            }
            case 37:
            case 38: {
                int p = somePost();
                int tried = random.nextBoolean() ? some(0, 40) : some(0, 3);
                int done = tried > 0 && tried <= 40 ? some(0, tried) : some(0, 40);
                is("thefts(" + p + ", " + done + ", " + tried + ")", x.thefts(p, done, tried), o.thefts(p, done, tried));
                break;
            }
            case 39: {
                int p = somePost();
                is("doubt(" + p + ")", x.doubt(p), o.doubt(p));
                break;
            }
            case 40:
                is("spy()", x.spy(), o.spy());
                break;
            case 41: {
                int what = some(0, 2);
                int i = some(0, 14);
                is("sign(" + what + ")", x.sign(what), o.sign(what));
                is("limb(" + what + ", " + i + ")", x.limb(what, i), o.limb(what, i));
                break;
            }
            case 42: {
                int i = some(0, 1);
                is("image(" + i + ")", x.image(i), o.image(i));
                break;
            }
            case 43: {
                int i = some(0, 1);
                is("from(" + i + ")", x.from(i), o.from(i));
                break;
            }
            default: {
                int what = some(0, 4);
                is("status(" + what + ")", x.status(what), o.status(what));
                is("count(" + what + ")", x.count(what), o.count(what));
                break;
            }
        }
    }

    private void tellSome() {
        // Along a lawful night as far as it goes, then anything.
        int along = random.nextInt(13);
        for (int k = random.nextInt(6); k >= 0; k--) {
            int hour = o.s.told.size();
            int who = random.nextInt(5) == 0 || hour >= along ? some(-1, o.s.posts.size() - 1) : -1;
            if (hour < along && o.s.posts.stream().mapToInt(p -> p.need).sum() <= 12) {
                who = o.night(0, Math.min(11, hour));
                is("night(0, " + Math.min(11, hour) + ")", x.night(0, Math.min(11, hour)), who);
            }
            is("tell(" + who + ")", x.tell(who), o.tell(who));
        }
        is("judge()", x.judge(), o.judge());
    }

    private void aNight() {
        long many = o.s.posts.stream().mapToInt(p -> p.need).sum() > 12 ? 1 : o.nights();
        if (many >= 1 && o.s.posts.stream().mapToInt(p -> p.need).sum() <= 12) {
            is("nights()", x.nights(), many);
        }
        long i = random.nextInt(8) == 0 ? many + random.nextInt(2) - 1 : Math.floorMod(random.nextLong(), many);
        if (random.nextInt(20) == 0) {
            i = random.nextLong();
        }
        for (int k = random.nextInt(5); k >= 0; k--) {
            int hour = some(0, 11);
            is("night(" + i + ", " + hour + ")", x.night(i, hour), o.night(i, hour));
        }
    }

    private void aWall() {
        StringBuilder wall = new StringBuilder();
        String[] words = {"worth", "share", "need"};
        int n = 1 + random.nextInt(9);
        wall.append("posts").append(blanks(0)).append(n).append(blanks(0)).append(';');
        for (int k = random.nextInt(9); k > 0; k--) {
            int what = random.nextInt(3);
            int v = random.nextInt(what == 2 ? 5 : 100);
            wall.append(blanks(0)).append(words[what]).append(blanks(0)).append(random.nextInt(n)).append(blanks(1));
            wall.append(v < 10 && random.nextInt(5) == 0 ? "0" : "").append(v).append(blanks(0)).append(';');
        }
        wall.append(blanks(0));
        for (int k = random.nextInt(3) == 0 ? 1 + random.nextInt(2) : 0; k > 0 && wall.length() > 0; k--) {
            int at = random.nextInt(wall.length());
            String odd = "abz09;; \u0000\u00e9P";
            int how = random.nextInt(4);
            if (how == 0) {
                wall.deleteCharAt(at);
            } else if (how == 1) {
                wall.insert(at, odd.charAt(random.nextInt(odd.length())));
            } else if (how == 2) {
                wall.setCharAt(at, odd.charAt(random.nextInt(odd.length())));
            } else {
                wall.setLength(at);
            }
        }
        is("clear()", x.clear(), o.clear());
        for (int i = 0; i < wall.length(); i += 8) {
            long v = 0;
            int bytes = Math.min(8, wall.length() - i);
            for (int k = 0; k < bytes; k++) {
                v = v << 8 | wall.charAt(i + k);
            }
            is("type(" + v + ", " + bytes + ")", x.type(v, bytes), o.type(v, bytes));
        }
        is("read() of '" + wall + "'", x.read(), o.read());
        is("digest()", x.digest(), o.digest());
    }

    private String blanks(int least) {
        return " ".repeat(least + (random.nextInt(4) == 0 ? random.nextInt(3) : least > 0 ? 0 : random.nextInt(2)));
    }

    private void aRule() {
        StringBuilder rule = new StringBuilder();
        value(rule, 0);
        if (random.nextInt(3) == 0 && rule.length() > 0) {
            rule.setCharAt(random.nextInt(rule.length()), RULE_SIGNS.charAt(random.nextInt(RULE_SIGNS.length())));
        }
        is("erase()", x.erase(), o.erase());
        for (int i = 0; i < rule.length() && i < 41; i++) {
            is("write()", x.write(rule.charAt(i)), o.write(rule.charAt(i)));
        }
        is("fault() of '" + rule + "'", x.fault(), o.fault());
        int start = random.nextInt(o.s.posts.size());
        int step = random.nextInt(10);
        int seed = random.nextInt(1000000);
        is("captain(2)", x.captain(2, start, step, seed), o.captain(2, start, step, seed));
        for (int hour = 0; hour < 6; hour++) {
            is("asleep(" + hour + ", 0) by '" + rule + "'", x.asleep(hour, 0), o.asleep(hour, 0));
        }
    }

    /** A drawn rule, lawful but for its length. */
    private void value(StringBuilder rule, int depth) {
        int many = depth > 3 ? 1 : 1 + random.nextInt(4);
        boolean compared = false;
        for (int k = 0; k < many; k++) {
            if (k > 0) {
                String signs = compared ? "|&+-*/" : "|&<>=+-*/";
                char sign = signs.charAt(random.nextInt(signs.length()));
                compared = sign == '|' || sign == '&' ? false : compared || "<>=".indexOf(sign) >= 0;
                rule.append(sign);
            }
            unit(rule, depth);
        }
    }

    private void unit(StringBuilder rule, int depth) {
        if (random.nextInt(8) == 0) {
            rule.append(' ');
        }
        int kind = random.nextInt(10);
        if (kind < 2) {
            rule.append(kind == 0 ? '!' : '-');
            unit(rule, depth);
        } else if (kind < 4 && depth < 9) {
            rule.append('(');
            value(rule, depth + 1);
            rule.append(')');
        } else if (kind < 6) {
            rule.append(random.nextInt(random.nextInt(20) == 0 ? 2000000 : random.nextInt(5) == 0 ? 1000000 : 20));
        } else {
            rule.append("hnstlx".charAt(random.nextInt(6)));
        }
    }
}
