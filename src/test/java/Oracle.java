import java.math.BigInteger;
import java.util.ArrayList;
import java.util.Arrays;
import java.util.List;
import java.util.regex.Matcher;
import java.util.regex.Pattern;

/** The document's face again, worked in the plainest way, however slow; for comparing alone. */
final class Oracle {
    private static final BigInteger ONE = BigInteger.ONE, ZERO = BigInteger.ZERO;

    /** A fraction in lowest terms. */
    static final class Q {
        final BigInteger a, b;

        Q(BigInteger a, BigInteger b) {
            BigInteger g = a.gcd(b);
            this.a = a.divide(g);
            this.b = b.divide(g);
        }

        static Q of(long a, long b) {
            return new Q(BigInteger.valueOf(a), BigInteger.valueOf(b));
        }

        Q plus(Q o) {
            return new Q(a.multiply(o.b).add(o.a.multiply(b)), b.multiply(o.b));
        }

        Q minus(Q o) {
            return new Q(a.multiply(o.b).subtract(o.a.multiply(b)), b.multiply(o.b));
        }

        Q times(Q o) {
            return new Q(a.multiply(o.a), b.multiply(o.b));
        }

        Q by(Q o) {
            return times(new Q(o.b, o.a));
        }

        int to(Q o) {
            return a.multiply(o.b).compareTo(o.a.multiply(b));
        }

        Q power(int n) {
            return new Q(a.pow(n), b.pow(n));
        }
    }

    private static final class Fault extends RuntimeException {
        private static final long serialVersionUID = 1;
        final int code;

        Fault(int code) {
            super(null, null, false, false);
            this.code = code;
        }
    }

    static final class Post {
        int worth = 10, share = 1, need, done, tried;

        Post twin() {
            Post p = new Post();
            p.worth = worth;
            p.share = share;
            p.need = need;
            p.done = done;
            p.tried = tried;
            return p;
        }
    }

    static final class State {
        List<Post> posts = new ArrayList<>();
        int kind, start, step, seed;
        String rule = "";
        List<int[]> sights = new ArrayList<>();
        List<Integer> told = new ArrayList<>();

        State twin() {
            State s = new State();
            for (Post p : posts) {
                s.posts.add(p.twin());
            }
            s.kind = kind;
            s.start = start;
            s.step = step;
            s.seed = seed;
            s.rule = rule;
            s.sights.addAll(sights);
            s.told.addAll(told);
            return s;
        }
    }

    State s = new State();
    private final State[] images = new State[2];
    private String text = "";
    private Q fraction = Q.of(0, 1);
    private final int[] refused = new int[3];

    Oracle() {
        fresh(9);
    }

    private void fresh(int n) {
        s.posts.clear();
        for (int i = 0; i < n; i++) {
            s.posts.add(new Post());
        }
        s.start = 0;
        s.sights.clear();
        s.told.clear();
    }

    private int bad() {
        refused[0]++;
        return -2;
    }

    private int no() {
        refused[1]++;
        return -3;
    }

    private int full() {
        refused[2]++;
        return -4;
    }

    private int n() {
        return s.posts.size();
    }

    private static boolean in(long v, long low, long high) {
        return low <= v && v <= high;
    }

    private boolean post(int p) {
        return in(p, 0, n() - 1);
    }

    private int whole() {
        return s.posts.stream().mapToInt(p -> p.share).sum();
    }

    int posts(int n) {
        if (!in(n, 1, 9)) {
            return bad();
        }
        int was = n();
        fresh(n);
        return was;
    }

    int put(int post, int what, int v) {
        if (!post(post) || !in(what, 0, 2) || !in(v, 0, what == 2 ? 12 : 99)) {
            return bad();
        }
        Post p = s.posts.get(post);
        int was;
        if (what == 0) {
            was = p.worth;
            p.worth = v;
        } else if (what == 1) {
            was = p.share;
            p.share = v;
        } else {
            was = p.need;
            p.need = v;
        }
        return was;
    }

    int captain(int kind, int start, int step, int seed) {
        if (!in(kind, 0, 4) || !post(start) || !in(step, 0, 9) || !in(seed, 0, 999999)) {
            return bad();
        }
        s.kind = kind;
        s.start = start;
        s.step = step;
        s.seed = seed;
        return 1;
    }

    int type(long v, int n) {
        if (!in(n, 1, 8)) {
            return bad();
        }
        if (text.length() + n > 200) {
            return full();
        }
        String bytes = "";
        for (int i = 0; i < n; i++) {
            bytes = (char) (v & 255) + bytes;
            v >>>= 8;
        }
        text += bytes;
        return text.length();
    }

    int clear() {
        int had = text.length();
        text = "";
        return had;
    }

    int read() {
        // Tokens as texts with their places; one of no kind ends the row, as does the text's end.
        List<String> tokens = new ArrayList<>();
        List<Integer> places = new ArrayList<>();
        Matcher m = Pattern.compile("[a-z]+|[0-9]+|;| +|[\\s\\S]").matcher(text);
        while (m.find()) {
            if (!m.group().startsWith(" ")) {
                tokens.add(m.group());
                places.add(m.start());
            }
        }
        tokens.add("");
        places.add(text.length());
        List<Post> wall = new ArrayList<>();
        int at = 0;
        String[] dueForms = {"posts", "N", ";"};
        for (int i = 0; i < 3; i++, at++) {
            String t = tokens.get(at);
            boolean fits = dueForms[i].equals("N") ? t.matches("0?[1-9]") : t.equals(dueForms[i]);
            if (!fits) {
                return -10 - places.get(at);
            }
            if (i == 1) {
                for (int k = 0; k < Integer.parseInt(t); k++) {
                    wall.add(new Post());
                }
            }
        }
        while (!tokens.get(at).isEmpty()) {
            String word = tokens.get(at);
            if (!Arrays.asList("worth", "share", "need").contains(word)) {
                return -10 - places.get(at);
            }
            at++;
            if (!tokens.get(at).matches("[0-9]{1,2}") || Integer.parseInt(tokens.get(at)) >= wall.size()) {
                return -10 - places.get(at);
            }
            Post p = wall.get(Integer.parseInt(tokens.get(at)));
            at++;
            if (!tokens.get(at).matches("[0-9]{1,2}") || word.equals("need") && Integer.parseInt(tokens.get(at)) > 12) {
                return -10 - places.get(at);
            }
            int v = Integer.parseInt(tokens.get(at));
            if (word.equals("worth")) {
                p.worth = v;
            } else if (word.equals("share")) {
                p.share = v;
            } else {
                p.need = v;
            }
            at++;
            if (!tokens.get(at).equals(";")) {
                return -10 - places.get(at);
            }
            at++;
        }
        fresh(1);
        s.posts = wall;
        return n();
    }

    int write(int c) {
        if (!in(c, 0, 127)) {
            return bad();
        }
        if (s.rule.length() == 40) {
            return full();
        }
        s.rule += (char) c;
        return s.rule.length();
    }

    int erase() {
        int had = s.rule.length();
        s.rule = "";
        return had;
    }

    /** Works the rule while it reads it. */
    private final class Reader {
        final String r = s.rule;
        int at, open, hour, last;
        long x;

        void blanks() {
            while (at < r.length() && r.charAt(at) == ' ') {
                at++;
            }
        }

        char next() {
            blanks();
            return at < r.length() ? r.charAt(at) : 0;
        }

        boolean take(String any) {
            blanks();
            if (at < r.length() && any.indexOf(r.charAt(at)) >= 0) {
                at++;
                return true;
            }
            return false;
        }

        long all() {
            long v = value();
            blanks();
            if (at < r.length()) {
                throw new Fault(10 * at + 1);
            }
            return v;
        }

        long value() {
            long v = both();
            while (take("|")) {
                long w = both();
                v = v != 0 || w != 0 ? 1 : 0;
            }
            return v;
        }

        long both() {
            long v = held();
            while (take("&")) {
                long w = held();
                v = v != 0 && w != 0 ? 1 : 0;
            }
            return v;
        }

        long held() {
            long v = sum();
            if (take("<")) {
                return v < sum() ? 1 : 0;
            }
            if (take(">")) {
                return v > sum() ? 1 : 0;
            }
            if (take("=")) {
                return v == sum() ? 1 : 0;
            }
            return v;
        }

        long sum() {
            long v = term();
            while (true) {
                if (take("+")) {
                    v += term();
                } else if (take("-")) {
                    v -= term();
                } else {
                    return v;
                }
            }
        }

        long term() {
            long v = unit();
            while (true) {
                if (take("*")) {
                    v *= unit();
                } else if (take("/")) {
                    long w = unit();
                    v = w == 0 ? 0 : v / w;
                } else {
                    return v;
                }
            }
        }

        long unit() {
            blanks();
            if (at >= r.length()) {
                throw new Fault(10 * r.length() + 1);
            }
            int place = at;
            char c = r.charAt(at);
            at++;
            switch (c) {
                case 'h': return hour;
                case 'n': return n();
                case 's': return s.start;
                case 't': return s.step;
                case 'l': return last;
                case 'x': return x;
                case '!': return unit() == 0 ? 1 : 0;
                case '-': return -unit();
                case '(':
                    if (open == 8) {
                        throw new Fault(10 * place + 3);
                    }
                    open++;
                    long v = value();
                    if (!take(")")) {
                        throw new Fault(10 * at + 1);
                    }
                    open--;
                    return v;
                default:
                    if (c < '0' || c > '9') {
                        throw new Fault(10 * place + 1);
                    }
                    while (at < r.length() && r.charAt(at) >= '0' && r.charAt(at) <= '9') {
                        at++;
                        if (at - place == 7) {
                            throw new Fault(10 * place + 2);
                        }
                    }
                    return Long.parseLong(r.substring(place, at));
            }
        }
    }

    int fault() {
        try {
            new Reader().all();
            return -1;
        } catch (Fault f) {
            return f.code;
        }
    }

    private List<Long> draws(int hour) {
        List<Long> draws = new ArrayList<>();
        BigInteger x = BigInteger.valueOf(s.seed);
        for (int h = 0; h <= hour; h++) {
            x = x.multiply(BigInteger.valueOf(1103515245)).add(BigInteger.valueOf(12345)).mod(ONE.shiftLeft(31));
            draws.add(x.longValue() / 65536);
        }
        return draws;
    }

    int asleep(int hour, int what) {
        if (!in(hour, 0, 999) || !in(what, 0, 1)) {
            return bad();
        }
        int who;
        if (s.kind == 0 || s.kind == 3) {
            if (whole() == 0) {
                return no();
            }
            List<Integer> slots = new ArrayList<>();
            for (int p = 0; p < n(); p++) {
                for (int k = 0; k < s.posts.get(p).share; k++) {
                    slots.add(p);
                }
            }
            who = slots.get((int) (draws(hour).get(hour) % slots.size()));
        } else if (s.kind == 2) {
            if (fault() != -1) {
                return no();
            }
            List<Long> draws = draws(hour);
            who = s.start;
            for (int h = 0; h <= hour; h++) {
                Reader r = new Reader();
                r.hour = h;
                r.last = who;
                r.x = draws.get(h);
                who = (int) Math.floorMod(r.all(), (long) n());
            }
        } else {
            who = s.start;
            for (int h = 1; h <= hour; h++) {
                if (s.kind == 1) {
                    who = (who + s.step) % n();
                } else if (h % 2 == 0) {
                    who = (who + 2 * s.step) % n();
                }
            }
        }
        return what == 1 && s.kind == 3 ? (who + 1) % n() : who;
    }

    private Q hasOf(int p) {
        return Q.of(s.posts.get(p).share, whole()).times(Q.of(s.posts.get(p).worth, 1));
    }

    int has(int post) {
        if (!post(post)) {
            return bad();
        }
        if (whole() == 0) {
            return no();
        }
        fraction = hasOf(post);
        return 1;
    }

    int tries() {
        if (whole() == 0) {
            return no();
        }
        int best = 0;
        for (int p = 0; p < n(); p++) {
            if (hasOf(p).to(hasOf(best)) > 0) {
                best = p;
            }
        }
        return best;
    }

    int two() {
        if (whole() == 0 || n() == 1) {
            return no();
        }
        Q most = null;
        int pair = -1;
        for (int p = 0; p < n(); p++) {
            for (int q = p + 1; q < n(); q++) {
                Q both = hasOf(p).plus(hasOf(q));
                if (most == null || both.to(most) > 0) {
                    most = both;
                    pair = 10 * p + q;
                }
            }
        }
        fraction = most;
        return pair;
    }

    int ladder(int l) {
        if (!in(l, 1, 9)) {
            return bad();
        }
        if (whole() == 0) {
            return no();
        }
        Q most = Q.of(0, 1);
        for (Post p : s.posts) {
            Q v = Q.of(p.share, whole()).power(l).times(Q.of(p.worth, 1));
            if (v.to(most) > 0) {
                most = v;
            }
        }
        fraction = most;
        return 1;
    }

    int knows() {
        if (whole() == 0) {
            return no();
        }
        Q sum = Q.of(0, 1);
        for (int p = 0; p < n(); p++) {
            sum = sum.plus(hasOf(p));
        }
        int at = 0;
        for (int p = 0; p < n(); p++) {
            if (hasOf(p).to(hasOf(at)) > 0) {
                at = p;
            }
        }
        fraction = sum.minus(hasOf(at));
        return 1;
    }

    /** The most chance that all posts can have together, if none may be worth more than v. */
    private Q room(Q v) {
        Q sum = Q.of(0, 1);
        for (Post p : s.posts) {
            Q c = p.worth == 0 ? Q.of(1, 1) : v.by(Q.of(p.worth, 1));
            sum = sum.plus(c.to(Q.of(1, 1)) > 0 ? Q.of(1, 1) : c);
        }
        return sum;
    }

    private Q bestOf(int a) {
        // At the least v some posts are sure and the others not: all ways to say which are tried.
        Q least = null;
        List<Q> candidates = new ArrayList<>();
        candidates.add(Q.of(0, 1));
        // For each set of posts its inverses together; null, if one is worthless.
        Q[] inverses = new Q[1 << n()];
        inverses[0] = Q.of(0, 1);
        for (int unsure = 1; unsure < 1 << n(); unsure++) {
            int worth = s.posts.get(Integer.numberOfTrailingZeros(unsure)).worth;
            Q others = inverses[unsure & unsure - 1];
            inverses[unsure] = others == null || worth == 0 ? null : others.plus(Q.of(1, worth));
            int rest = a - (n() - Integer.bitCount(unsure));
            if (inverses[unsure] != null && rest >= 0) {
                candidates.add(Q.of(rest, 1).by(inverses[unsure]));
            }
        }
        for (Post p : s.posts) {
            candidates.add(Q.of(p.worth, 1));
        }
        for (Q v : candidates) {
            if ((least == null || v.to(least) < 0) && room(v).to(Q.of(a, 1)) >= 0) {
                least = v;
            }
        }
        return least;
    }

    int best(int a) {
        if (!in(a, 1, n())) {
            return bad();
        }
        fraction = bestOf(a);
        return 1;
    }

    int chance(int a, int post) {
        if (!in(a, 1, n()) || !post(post)) {
            return bad();
        }
        int zeros = (int) s.posts.stream().filter(p -> p.worth == 0).count();
        int worth = s.posts.get(post).worth;
        if (zeros >= a) {
            fraction = worth == 0 ? Q.of(a, zeros) : Q.of(0, 1);
        } else if (worth == 0) {
            fraction = Q.of(1, 1);
        } else {
            Q c = bestOf(a).by(Q.of(worth, 1));
            fraction = c.to(Q.of(1, 1)) > 0 ? Q.of(1, 1) : c;
        }
        return 1;
    }

    int duke(int pay) {
        if (!in(pay, 0, 99)) {
            return bad();
        }
        int at = 0;
        Q least = null;
        for (int a = 1; a <= n(); a++) {
            Q v = bestOf(a).plus(Q.of((long) pay * (n() - a), 1));
            if (least == null || v.to(least) < 0) {
                least = v;
                at = a;
            }
        }
        return at;
    }

    int creak(int posts, int u, int v) {
        if (!in(posts, 0, (1 << n()) - 1) || !in(u, 0, 10) || !in(v, 0, 10)) {
            return bad();
        }
        if (whole() == 0) {
            return no();
        }
        Q does = Q.of(0, 1);
        Q doesNot = Q.of(0, 1);
        for (int p = 0; p < n(); p++) {
            Q chance = Q.of(s.posts.get(p).share, whole());
            if ((posts & 1 << p) != 0) {
                does = does.plus(chance);
            } else {
                doesNot = doesNot.plus(chance);
            }
        }
        Q both = does.times(Q.of(u, 10));
        Q heard = both.plus(doesNot.times(Q.of(v, 10)));
        if (heard.a.signum() == 0) {
            return no();
        }
        fraction = both.by(heard);
        return 1;
    }

    private boolean tooMany() {
        return s.posts.stream().mapToInt(p -> p.need).sum() > 12;
    }

    /** How many LAWFUL nights begin so, hour by hour. */
    private long begun(int[] night, int hours) {
        int[] slept = new int[n()];
        boolean[] over = new boolean[n()];
        for (int h = 0; h < hours; h++) {
            int who = night[h];
            if (who >= 0 && (over[who] || slept[who] == s.posts.get(who).need)) {
                return 0;
            }
            if (h > 0 && night[h - 1] >= 0 && night[h - 1] != who) {
                int before = night[h - 1];
                over[before] = true;
                if (slept[before] < s.posts.get(before).need) {
                    return 0;
                }
            }
            if (who >= 0) {
                slept[who]++;
            }
        }
        int owed = 0;
        int yet = 0;
        for (int p = 0; p < n(); p++) {
            int more = s.posts.get(p).need - slept[p];
            owed += more;
            if (more > 0 && slept[p] == 0) {
                yet++;
            }
        }
        int free = 12 - hours - owed;
        if (free < 0) {
            return 0;
        }
        long ways = 1;
        for (int k = 0; k < yet; k++) {
            ways *= free + yet - k;
        }
        return ways;
    }

    long nights() {
        if (tooMany()) {
            return no();
        }
        long counted = begun(new int[12], 0);
        if (counted <= 2000) {
            long listed = list(new int[12], 0);
            if (listed != counted) {
                throw new IllegalStateException("the oracle's own counts differ: " + counted + ", " + listed);
            }
        }
        return counted;
    }

    private boolean lawful(int[] night) {
        for (int p = 0; p < n(); p++) {
            int first = -1;
            int last = -1;
            int hours = 0;
            for (int h = 0; h < 12; h++) {
                if (night[h] == p) {
                    first = first < 0 ? h : first;
                    last = h;
                    hours++;
                }
            }
            if (hours != s.posts.get(p).need || hours > 0 && last - first + 1 != hours) {
                return false;
            }
        }
        return true;
    }

    private long list(int[] night, int hours) {
        if (hours == 12) {
            return lawful(night) ? 1 : 0;
        }
        long sum = 0;
        for (int who = -1; who < n(); who++) {
            night[hours] = who;
            if (begun(night, hours + 1) > 0) {
                sum += list(night, hours + 1);
            }
        }
        return sum;
    }

    int night(long i, int hour) {
        if (i < 0 || !in(hour, 0, 11)) {
            bad();
            return -10;
        }
        if (tooMany()) {
            return no();
        }
        int[] night = new int[12];
        if (i >= begun(night, 0)) {
            return -5;
        }
        for (int h = 0; h <= hour; h++) {
            for (int who = -1; who < n(); who++) {
                night[h] = who;
                long ways = begun(night, h + 1);
                if (i < ways) {
                    break;
                }
                i -= ways;
            }
        }
        return night[hour];
    }

    int tell(int post) {
        if (post != -1 && !post(post)) {
            bad();
            return -10;
        }
        if (s.told.size() == 12) {
            return full();
        }
        s.told.add(post);
        return s.told.size();
    }

    int forget() {
        int had = s.told.size();
        s.told.clear();
        return had;
    }

    int judge() {
        int[] night = new int[12];
        for (int h = 0; h < s.told.size(); h++) {
            night[h] = s.told.get(h);
            if (begun(night, h + 1) == 0) {
                return h;
            }
        }
        return -1;
    }

    int sight(int hour, int post, int asleep) {
        if (!in(hour, 0, 999) || !post(post) || !in(asleep, 0, 1)) {
            return bad();
        }
        if (s.sights.size() == 12) {
            return full();
        }
        s.sights.add(new int[] {hour, post, asleep});
        return s.sights.size() - 1;
    }

    int blind() {
        int had = s.sights.size();
        s.sights.clear();
        return had;
    }

    private int pairs(List<int[]> sights, boolean first) {
        int many = 0;
        for (int start = 0; start < n(); start++) {
            for (int step = 0; step < n(); step++) {
                int a = start;
                int b = step;
                if (sights.stream().allMatch(v -> (((a + v[0] * b) % n()) == v[1]) == (v[2] == 1))) {
                    many++;
                    if (first) {
                        return 10 * a + b;
                    }
                }
            }
        }
        return first ? -1 : many;
    }

    int rounds(int what) {
        return in(what, 0, 1) ? pairs(s.sights, what == 1) : bad();
    }

    int soon(int post) {
        if (!post(post)) {
            return bad();
        }
        List<int[]> looks = new ArrayList<>();
        for (int h = 0; h <= 99; h++) {
            looks.add(new int[] {h, post, (s.start + h * s.step) % n() == post ? 1 : 0});
            if (pairs(looks, false) == 1) {
                return h;
            }
        }
        return -1;
    }

    int thefts(int post, int done, int tried) {
        if (!post(post) || !in(done, 0, 40) || !in(tried, 0, 40) || tried < done) {
            return bad();
        }
        s.posts.get(post).done = done;
        s.posts.get(post).tried = tried;
        return 1;
    }

    private Q doubtOf(int p) {
        Post post = s.posts.get(p);
        BigInteger share = BigInteger.valueOf(post.share);
        BigInteger other = BigInteger.valueOf(whole() - post.share);
        BigInteger sum = ZERO;
        for (int k = post.done; k <= post.tried; k++) {
            BigInteger choose = ONE;
            for (int j = 1; j <= k; j++) {
                choose = choose.multiply(BigInteger.valueOf(post.tried - j + 1)).divide(BigInteger.valueOf(j));
            }
            sum = sum.add(choose.multiply(share.pow(k)).multiply(other.pow(post.tried - k)));
        }
        return new Q(sum, BigInteger.valueOf(whole()).pow(post.tried));
    }

    int doubt(int post) {
        if (!post(post)) {
            return bad();
        }
        if (whole() == 0) {
            return no();
        }
        fraction = doubtOf(post);
        return 1;
    }

    int spy() {
        if (whole() == 0) {
            return no();
        }
        int at = 0;
        for (int p = 1; p < n(); p++) {
            if (doubtOf(p).to(doubtOf(at)) < 0) {
                at = p;
            }
        }
        fraction = doubtOf(at);
        return at;
    }

    private static List<Integer> limbs(BigInteger v) {
        List<Integer> limbs = new ArrayList<>();
        BigInteger base = BigInteger.valueOf(1073741824);
        while (v.signum() > 0) {
            limbs.add(v.mod(base).intValue());
            v = v.divide(base);
        }
        return limbs;
    }

    int sign(int what) {
        switch (what) {
            case 0: return fraction.a.signum();
            case 1: return limbs(fraction.a).size();
            case 2: return limbs(fraction.b).size();
            default: return bad();
        }
    }

    int limb(int which, int i) {
        if (!in(which, 0, 1) || i < 0) {
            return bad();
        }
        List<Integer> limbs = limbs(which == 0 ? fraction.a : fraction.b);
        return i < limbs.size() ? limbs.get(i) : -1;
    }

    int image(int i) {
        if (!in(i, 0, 1)) {
            return bad();
        }
        images[i] = s.twin();
        return 1;
    }

    int from(int i) {
        if (!in(i, 0, 1)) {
            return bad();
        }
        if (images[i] == null) {
            return no();
        }
        s = images[i].twin();
        return 1;
    }

    int status(int what) {
        if (!in(what, 0, 2)) {
            bad();
            return -1;
        }
        return refused[what];
    }

    int count(int what) {
        switch (what) {
            case 0: return n();
            case 1: return s.sights.size();
            case 2: return s.told.size();
            case 3: return text.length();
            case 4: return s.rule.length();
            default: return bad();
        }
    }

    long digest() {
        List<Long> values = new ArrayList<>();
        for (int what = 0; what < 5; what++) {
            values.add((long) count(what));
        }
        for (Post p : s.posts) {
            for (int v : new int[] {p.worth, p.share, p.need, p.done, p.tried}) {
                values.add((long) v);
            }
        }
        for (int v : new int[] {s.kind, s.start, s.step, s.seed}) {
            values.add((long) v);
        }
        for (int[] sight : s.sights) {
            for (int v : sight) {
                values.add((long) v);
            }
        }
        for (int v : s.told) {
            values.add((long) v);
        }
        for (char c : s.rule.toCharArray()) {
            values.add((long) c);
        }
        for (int what = 0; what < 3; what++) {
            values.add((long) sign(what));
        }
        for (int v : limbs(fraction.a)) {
            values.add((long) v);
        }
        for (int v : limbs(fraction.b)) {
            values.add((long) v);
        }
        long h = 739;
        for (long v : values) {
            h = 31 * h + v;
        }
        return h;
    }
}
