import java.math.BigInteger;

/** THE RULE and THE CAPTAIN at the edges that the document's words name. */
public final class RuleEdgesTest {
    private static final Due due = new Due("RuleEdgesTest");

    public static void main(String[] args) {
        length();
        longest();
        empty();
        oneAfterAnother();
        digits();
        brackets();
        everyCharacter();
        tooEarly();
        firstThatCanNotStand();
        comparedOnce();
        blanks();
        hourAhead();
        names();
        truths();
        wraps();
        division();
        leftOver();
        faultIsNo();
        draws();
        lots();
        noShares();
        turns();
        behind();
        shownAsLot();
        lazy();
        lanterns();
        due.end();
    }

    private static WatchSleep ruled(int n, String rule) {
        WatchSleep x = new WatchSleep();
        x.posts(n);
        x.captain(2, 0, 0, 0);
        Due.write(x, rule);
        return x;
    }

    /** A FAULT is an answer of fault(), no refusal, and changes nothing; asleep() is refused by it. */
    private static void fault(String rule, int want) {
        Scene.idle(due, "fault() of '" + rule + "'", () -> ruled(9, rule), x -> x.fault(), want);
        if (want != -1) {
            for (int hour : new int[] {0, 1, 999}) {
                Scene.refused(due, "asleep(" + hour + ", 0) by '" + rule + "'", () -> ruled(9, rule), x -> x.asleep(hour, 0), -3,
                    Scene.AS_NO);
            }
            Scene.refused(due, "asleep(0, 1) by '" + rule + "'", () -> ruled(9, rule), x -> x.asleep(0, 1), -3, Scene.AS_NO);
        }
    }

    private static void sleeps(int n, String rule, int hour, int who) {
        Scene.idle(due, "fault() of '" + rule + "'", () -> ruled(n, rule), x -> x.fault(), -1);
        Scene.idle(due, "asleep(" + hour + ", 0) by '" + rule + "', " + n + " POSTS", () -> ruled(n, rule),
            x -> x.asleep(hour, 0), who);
    }

    private static void length() {
        due.says("THE RULE is a TEXT (40 characters at most)");
        String whole = "1+1+1+1+1+1+1+1+1+1+1+1+1+1+1+1+1+1+1+17";
        due.is("its length", whole.length(), 40);
        // 19 ones and 17.
        sleeps(9, whole, 0, 0);
        sleeps(7, whole, 0, 1);
        WatchSleep x = new WatchSleep();
        for (int i = 1; i <= 40; i++) {
            due.is("write", x.write(whole.charAt(i - 1)), i);
        }
        due.is("write of the 41st", x.write('1'), -4);
        due.is("count(4)", x.count(4), 40);
        due.says("It is empty: how many.");
        due.is("erase() of a full one", x.erase(), 40);
        due.is("erase() of an empty one", x.erase(), 0);
        due.is("write after erase()", x.write('1'), 1);
        due.is("count(4)", x.count(4), 1);
    }

    /** As many signs, and as much that waits for a UNIT, as 40 characters can hold. */
    private static void longest() {
        due.says("THE RULE is a TEXT (40 characters at most)");
        sleeps(9, "-".repeat(39) + "1", 0, 8);
        sleeps(9, "-".repeat(38) + "1 ", 0, 1);
        sleeps(9, "!".repeat(39) + "5", 0, 0);
        sleeps(9, "!".repeat(38) + "5 ", 0, 1);
        // 2 and 3 times (2 and 3 times (2 and 3 times 1)) is 2, 6, 18, 27 together.
        sleeps(7, "2+3*(2+3*(2+3*(1)))", 0, 53 % 7);
        sleeps(7, "1-(1-(1-(1-(1-(1-(1-(1-(5))))))))", 0, 5);
        sleeps(7, "0|0&0<0+0*(0|0&0<0+0*(0|0&0<0+0*(0|0)))", 0, 0);
        sleeps(7, "0|1&2<3+1*(0|1&2<3+1*(0|1&2<3+1*(0|1)))", 0, 1);
        sleeps(9, "5+1*(5+1*(5+1*(5+1*(5+1*(5+1*(5+4))))))", 0, 39 % 9);
    }

    /** What an earlier RULE left behind does not tell in a later one. */
    private static void oneAfterAnother() {
        due.says("It is empty: how many.");
        String[] faults = {"((((((((", "-(", "!-!(", "1+(2*(", "(1|(2&(3<", "1234567", "(((((((((", "-", "1<2<", "((((((((!-!-!-!-!-!-!-!-!-!-"};
        WatchSleep x = ruled(9, "");
        for (String fault : faults) {
            Due.write(x, fault);
            due.isTrue("a FAULT of '" + fault + "'", x.fault() > 0);
            Due.write(x, "5");
            due.is("5 behind '" + fault + "'", x.asleep(0, 0), 5);
            Due.write(x, "((((5))))+1");
            due.is("6 behind '" + fault + "'", x.asleep(0, 0), 6);
        }
        x = ruled(9, "");
        for (int k = 0; k < 8; k++) {
            Due.write(x, "((((((((");
            due.is("8 of ( open, once more", x.fault(), 81);
            Due.write(x, "5+1");
            due.is("6 behind them", x.asleep(0, 0), 6);
        }
        x = ruled(9, "");
        String[] rules = {"-5", "5", "!5", "7", "l+1", "h", "1|0", "4", "2*(1+(1+1))", "8"};
        int[] wants = {4, 5, 0, 7, 1, 0, 1, 4, 6, 8};
        for (int i = 0; i < rules.length; i++) {
            Due.write(x, rules[i]);
            due.is("'" + rules[i] + "' in its turn", x.asleep(0, 0), wants[i]);
            due.is("'" + rules[i] + "' has no FAULT", x.fault(), -1);
        }
    }

    private static void empty() {
        due.says("FAULT of THE RULE (empty: 1). NONE.");
        fault("", 1);
        WatchSleep x = ruled(9, "1");
        x.erase();
        due.is("fault() of one that was erased", x.fault(), 1);
        due.is("asleep by it", x.asleep(0, 0), -3);
        Scene.idle(due, "fault() of no FAULT", () -> ruled(9, "1"), y -> y.fault(), -1);
    }

    private static void digits() {
        due.says("UNIT: digits (1 to 6)");
        sleeps(9, "8", 0, 8);
        sleeps(9, "0", 0, 0);
        sleeps(9, "999999", 0, 0);
        sleeps(7, "999999", 0, 0);
        sleeps(7, "999998", 0, 6);
        sleeps(9, "000007", 0, 7);
        due.says("2: a seventh digit (at the first)");
        fault("9999999", 2);
        fault("0000007", 2);
        fault("000007", -1);
        fault("1+1234567", 22);
        fault("1+123456", -1);
        fault("1+ 12345678", 32);
        fault(" ".repeat(33) + "1234567", 332);
        fault(" ".repeat(34) + "123456", -1);
        fault("1".repeat(40), 2);
        // Digits that can not stand there are not counted.
        fault("h1234567", 11);
        fault("123456 7", 71);
        fault("123456h", 61);
        // The first one counts, whatever comes behind it.
        fault("1234567a", 2);
        fault("a1234567", 1);
        fault("(1234567", 12);
        fault("1234567(((((((((", 2);
    }

    private static void brackets() {
        due.says("3: the 9th ( open");
        fault("((((((((1))))))))", -1);
        sleeps(9, "((((((((5))))))))", 0, 5);
        fault("(((((((((1)))))))))", 83);
        fault("(((((((((", 83);
        fault("((((((((", 81);
        fault(" ( ( ( ( ( ( ( ( (", 173);
        fault("((((((((1+(", 103);
        fault("((((((((1)+(", 121);
        fault("((((((((1)+(2))))))))", -1);
        fault("((((((((1)+((", 123);
        // Ten of them, but never more than one open.
        fault("(1)+(1)+(1)+(1)+(1)+(1)+(1)+(1)+(1)+(1)", -1);
        sleeps(9, "(1)+(1)+(1)+(1)+(1)+(1)+(1)+(1)+(1)+(2)", 0, 2);
        // A ( that can not stand there is not the 9th.
        fault("((((((((1(", 91);
        fault("1(", 11);
        fault("!-!-!-!-!-!-((((((((-(", 213);
        // The 40th character may be the 9th.
        fault("-".repeat(31) + "(((((((((", 393);
        fault("-".repeat(32) + "((((((((", 401);
    }

    /** 128 characters at each of three places: as a beginning, behind a UNIT, behind one in a bracket. */
    private static void everyCharacter() {
        due.says("FAULT: 10 times the place of the first character that can not stand there (its length: too early) and 1");
        for (int c = 0; c < 128; c++) {
            boolean unit = "0123456789hnstlx".indexOf(c) >= 0;
            boolean digit = c >= '0' && c <= '9';
            boolean ahead = "(!-".indexOf(c) >= 0;
            boolean between = "|&<>=+-*/".indexOf(c) >= 0;
            fault("" + (char) c, unit ? -1 : ahead || c == ' ' ? 11 : 1);
            fault("1" + (char) c, digit || c == ' ' ? -1 : between ? 21 : 11);
            fault("h" + (char) c, c == ' ' ? -1 : between ? 21 : 11);
            fault("(h" + (char) c, c == ')' ? -1 : c == ' ' || between ? 31 : 21);
            fault("(h)" + (char) c, c == ' ' ? -1 : between ? 41 : 31);
            fault("h+" + (char) c, unit ? -1 : ahead || c == ' ' ? 31 : 21);
            fault("!" + (char) c, unit ? -1 : ahead || c == ' ' ? 21 : 11);
        }
    }

    private static void tooEarly() {
        due.says("(its length: too early)");
        String[] begun = {"(", "!", "-", "1+", "1-", "1*", "1/", "1<", "1>", "1=", "1&", "1|", "(1", "(1+", "((1)", " ", "1 + ",
            "-(h", "!(!(h)"};
        for (String rule : begun) {
            fault(rule, 10 * rule.length() + 1);
            fault(rule + "   ", 10 * rule.length() + 31);
        }
        fault("-".repeat(40), 401);
        fault(" ".repeat(40), 401);
        fault(" ".repeat(39) + "1", -1);
        fault(" ".repeat(39) + "a", 391);
        fault("1" + "+1".repeat(19) + "+", 401);
        fault("1" + "+1".repeat(19), -1);
    }

    private static void firstThatCanNotStand() {
        due.says("the first character that can not stand there");
        fault("aa", 1);
        fault("1+a+b", 21);
        fault(" a", 11);
        fault("1)", 11);
        fault("(1))", 31);
        fault("()", 11);
        fault("1+*2", 21);
        fault("1!2", 11);
        fault("1 2", 21);
        fault("hh", 11);
        fault("1h", 11);
        fault("h1", 11);
        fault("(1)(2)", 31);
        fault("(1)2", 31);
        fault("H", 1);
        fault("1=!", 31);
        fault("1==1", 21);
        fault("1<>1", 21);
        fault("1!=1", 11);
    }

    private static void comparedOnce() {
        due.says("HELD: SUM, or SUM < SUM, SUM > SUM, SUM = SUM");
        for (String first : new String[] {"<", ">", "="}) {
            for (String second : new String[] {"<", ">", "="}) {
                fault("1" + first + "2" + second + "3", 31);
                fault("1" + first + "2+3" + second + "4", 51);
                fault("(1" + first + "2)" + second + "3", -1);
                fault("1" + first + "(2" + second + "3)", -1);
                fault("1" + first + "2&3" + second + "4", -1);
                fault("1" + first + "2|3" + second + "4", -1);
                fault("(1" + first + "2" + second + "3)", 41);
            }
        }
    }

    private static void blanks() {
        due.says("blanks anywhere but within digits");
        sleeps(9, "  ( 1 + 2 ) * - - 2  ", 0, 6);
        sleeps(9, " ! ! 5 | h & 2 < 3 ", 0, 1);
        fault("1 1", 21);
        fault("12345 6", 61);
        fault("1\t", 11);
        fault("1\n", 11);
        fault("\u00001", 1);
    }

    private static void hourAhead() {
        due.says("l (who slept in the HOUR ahead; START in HOUR 0)");
        WatchSleep x = ruled(9, "l");
        x.captain(2, 8, 0, 0);
        due.is("l in HOUR 0", x.asleep(0, 0), 8);
        due.is("l in HOUR 999", x.asleep(999, 0), 8);
        Due.write(x, "l+1");
        due.is("l + 1 in HOUR 0", x.asleep(0, 0), 0);
        due.is("l + 1 in HOUR 1", x.asleep(1, 0), 1);
        due.is("l + 1 in HOUR 999: 8 and 1000", x.asleep(999, 0), 0);
        Due.write(x, "l-1");
        due.is("l - 1 in HOUR 8", x.asleep(8, 0), 8);
        due.is("l - 1 in HOUR 9: below 0", x.asleep(9, 0), 7);
        x.posts(9);
        due.is("START is 0 after posts(9): l - 1 in HOUR 0", x.asleep(0, 0), 8);
    }

    private static void names() {
        due.says("h (the HOUR), n, s (START), t (STEP)");
        for (int n = 1; n <= 9; n++) {
            WatchSleep x = ruled(n, "h");
            for (int hour : new int[] {0, 1, n - 1, n, 998, 999}) {
                due.is("h in " + hour + " of " + n, x.asleep(hour, 0), hour % n);
            }
            Due.write(x, "n");
            due.is("n of " + n, x.asleep(0, 0), 0);
            Due.write(x, "n-1");
            due.is("n - 1 of " + n, x.asleep(0, 0), n - 1);
            Due.write(x, "n/2");
            due.is("n / 2 of " + n, x.asleep(0, 0), n / 2 % n);
            Due.write(x, "n>8");
            due.is("n > 8 of " + n, x.asleep(0, 0), n == 9 ? 1 : 0);
            x.captain(2, n - 1, 9, 0);
            Due.write(x, "s");
            due.is("s of " + n, x.asleep(999, 0), n - 1);
            Due.write(x, "t");
            due.is("t of " + n, x.asleep(999, 0), 9 % n);
        }
    }

    private static void truths() {
        due.says("truths 1, 0 (not 0 is a truth)");
        String[] no = {"0&0", "0&1", "1&0", "-1&0", "0|0", "0<0", "1<0", "0>0", "0>1", "0=1", "1=0", "-1=1", "!1", "!2", "!-1",
            "!999999"};
        String[] yes = {"1&1", "2&-1", "999999&7", "0|-1", "7|0", "2|3", "0<1", "-1<0", "1>0", "0>-1", "0=0", "-1=-1", "!0", "!!5"};
        for (String rule : no) {
            sleeps(9, rule, 0, 0);
        }
        for (String rule : yes) {
            sleeps(9, rule, 0, 1);
        }
        // Of those in brackets it is a truth as well.
        sleeps(9, "(1|0)", 0, 1);
        sleeps(9, "(0|5)+3", 0, 4);
        sleeps(9, "(7&5)+3", 0, 4);
        sleeps(9, "3+(2<3)*4", 0, 7);
        sleeps(9, "2*(0|0|9)", 0, 2);
        // & ahead of |, sums ahead of both.
        sleeps(9, "1|1&0", 0, 1);
        sleeps(9, "0&0|1", 0, 1);
        sleeps(9, "0&(0|1)", 0, 0);
        sleeps(9, "1-1|0", 0, 0);
        sleeps(9, "1&1-1", 0, 0);
        // One alone is no truth yet.
        sleeps(9, "5", 0, 5);
        sleeps(9, "(5)", 0, 5);
        sleeps(9, "h", 5, 5);
    }

    /** 2 to the 63rd is 262144 three times and 512. */
    private static void wraps() {
        due.says("longs wrap");
        String least = "262144*262144*262144*512";
        BigInteger two63 = BigInteger.ONE.shiftLeft(63);
        for (int n = 1; n <= 9; n++) {
            BigInteger posts = BigInteger.valueOf(n);
            int leastLeft = two63.negate().mod(posts).intValue();
            int mostLeft = two63.subtract(BigInteger.ONE).mod(posts).intValue();
            sleeps(n, least, 0, leastLeft);
            sleeps(n, least + "-1", 0, mostLeft);
            sleeps(n, least + "-1+1", 0, leastLeft);
            sleeps(n, "-(" + least + ")", 0, leastLeft);
            sleeps(n, least + "*-1", 0, leastLeft);
            sleeps(n, least + "*2", 0, 0);
            sleeps(n, least + "+" + "1", 0, two63.negate().add(BigInteger.ONE).mod(posts).intValue());
        }
        sleeps(9, least + "<0", 0, 1);
        sleeps(9, least + "-1>0", 0, 1);
        sleeps(9, "0-(" + least + ")<0", 0, 1);
    }

    private static void division() {
        due.says("/ cut toward 0, by 0 is 0");
        sleeps(9, "7/2", 0, 3);
        sleeps(9, "-7/2", 0, 6);
        sleeps(9, "7/-2", 0, 6);
        sleeps(9, "-7/-2", 0, 3);
        sleeps(9, "-1/2", 0, 0);
        sleeps(9, "1/2", 0, 0);
        sleeps(9, "0/5", 0, 0);
        sleeps(9, "5/0", 0, 0);
        sleeps(9, "0/0", 0, 0);
        sleeps(9, "5/0+3", 0, 3);
        sleeps(9, "5/(1-1)", 0, 0);
        sleeps(9, "8/h", 0, 0);
        sleeps(9, "8/h", 1, 8);
        sleeps(9, "3/0/0*2", 0, 0);
        due.says("all is worked");
        sleeps(9, "1|1/0", 0, 1);
        sleeps(9, "0&1/0", 0, 0);
        due.says("/ cut toward 0, by 0 is 0");
        // The least long by -1 wraps.
        sleeps(9, "262144*262144*262144*512/-1", 0, 1);
        sleeps(9, "262144*262144*262144*512/-1<0", 0, 1);
    }

    private static void leftOver() {
        due.says("2 RULE (under ROUND): what THE RULE tells, by n left over (below 0: n more)");
        for (int n = 1; n <= 9; n++) {
            sleeps(n, "n-1", 0, n - 1);
            sleeps(n, "n", 0, 0);
            sleeps(n, "n+1", 0, 1 % n);
            sleeps(n, "0", 0, 0);
            sleeps(n, "-1", 0, n - 1);
            sleeps(n, "1-n", 0, n == 1 ? 0 : 1);
            sleeps(n, "-n", 0, 0);
            sleeps(n, "-n-1", 0, n - 1);
            sleeps(n, "-n*7", 0, 0);
        }
    }

    private static void faultIsNo() {
        due.says("NO: a FAULT.");
        WatchSleep x = ruled(9, "1+");
        for (int kind = 0; kind <= 4; kind++) {
            x.captain(kind, 1, 1, 1);
            due.is("asleep of KIND " + kind + " with a FAULT is NO", x.asleep(3, 0) == -3 ? 1 : 0, kind == 2 ? 1 : 0);
        }
        x.captain(2, 1, 1, 1);
        x.write('4');
        due.is("asleep as soon as there is none", x.asleep(3, 0), 5);
    }

    private static BigInteger drawn(int seed, int hour) {
        BigInteger x = BigInteger.valueOf(seed);
        for (int h = 0; h <= hour; h++) {
            x = x.multiply(BigInteger.valueOf(1103515245)).add(BigInteger.valueOf(12345)).mod(BigInteger.valueOf(2147483648L));
        }
        return x;
    }

    private static void draws() {
        due.says("becomes X times 1103515245 and 12345, by 2147483648 what is left over, once for each HOUR, from HOUR 0 on");
        WatchSleep x = ruled(9, "x");
        // SEED 0: X is 12345 in HOUR 0, cut by 65536 it is 0.
        due.is("x of SEED 0 in HOUR 0", x.asleep(0, 0), 0);
        for (int seed : new int[] {0, 1, 999998, 999999}) {
            x.captain(2, 0, 0, seed);
            for (int hour : new int[] {0, 1, 2, 998, 999}) {
                int cut = drawn(seed, hour).shiftRight(16).intValue();
                Due.write(x, "x");
                due.is("x of SEED " + seed + " in " + hour, x.asleep(hour, 0), cut % 9);
                Due.write(x, "x/9");
                due.is("x / 9 of SEED " + seed + " in " + hour, x.asleep(hour, 0), cut / 9 % 9);
                Due.write(x, "x/6561");
                due.is("x / 6561 of SEED " + seed + " in " + hour, x.asleep(hour, 0), cut / 6561);
                Due.write(x, "x+l*0");
                due.is("x beside l of SEED " + seed + " in " + hour, x.asleep(hour, 0), cut % 9);
            }
        }
    }

    private static void lots() {
        due.says("by WHOLE left over, is r: the first POST up to which all SHARES are more than r together");
        int[][] walls = {{1}, {99}, {0, 1}, {1, 0}, {0, 3, 0, 2, 0}, {1, 1, 1, 1, 1, 1, 1, 1, 1}, {99, 99, 99, 99, 99, 99, 99, 99, 99},
            {0, 0, 0, 0, 0, 0, 0, 0, 1}, {1, 98}};
        for (int[] shares : walls) {
            WatchSleep x = new WatchSleep();
            x.posts(shares.length);
            int whole = 0;
            for (int p = 0; p < shares.length; p++) {
                x.put(p, 1, shares[p]);
                whole += shares[p];
            }
            boolean[] met = new boolean[whole];
            for (int seed = 0; seed < 150; seed++) {
                int r = drawn(seed * 6667, 0).shiftRight(16).intValue() % whole;
                met[r] = true;
                int who = 0;
                for (int sum = shares[0]; sum <= r; sum += shares[who]) {
                    who++;
                }
                x.captain(0, 0, 0, seed * 6667);
                due.is("asleep by " + r + " of " + whole, x.asleep(0, 0), who);
            }
            for (int r = 0; r < whole && whole < 10; r++) {
                due.isTrue(r + " of " + whole + " was drawn", met[r]);
            }
        }
    }

    private static void noShares() {
        due.says("(NO: WHOLE is 0)");
        for (int n = 1; n <= 9; n++) {
            int posts = n;
            for (int kind = 0; kind <= 4; kind++) {
                int of = kind;
                for (int what = 0; what < 2; what++) {
                    int asked = what;
                    String call = "asleep(999, " + what + ") of KIND " + kind + ", " + n + " POSTS";
                    if (kind == 0 || kind == 3) {
                        Scene.refused(due, call, () -> shareless(posts, of), x -> x.asleep(999, asked), -3, Scene.AS_NO);
                        WatchSleep one = shareless(posts, of);
                        one.put(posts - 1, 1, 1);
                        int shown = kind == 3 && what == 1 ? 0 : posts - 1;
                        Scene.taken(due, call + ", a SHARE of 1", one, x -> x.asleep(999, asked), shown);
                    } else {
                        Scene.idle(due, call, () -> shareless(posts, of), x -> x.asleep(999, asked), posts - 1);
                    }
                }
            }
        }
    }

    /** ROUND and LAZY with STEP 0, and THE RULE s, stay at START. */
    private static WatchSleep shareless(int n, int kind) {
        WatchSleep x = Scene.shareless(n);
        Due.write(x, "s");
        x.captain(kind, n - 1, 0, 5);
        return x;
    }

    private static void turns() {
        due.says("1 ROUND (under LOT): START and h times STEP, by n left over");
        for (int n = 1; n <= 9; n++) {
            WatchSleep x = new WatchSleep();
            x.posts(n);
            for (int step : new int[] {0, 1, n - 1, n, 9}) {
                if (step <= 9) {
                    x.captain(1, n - 1, step, 0);
                    for (int hour : new int[] {0, 1, n, 998, 999}) {
                        due.is("asleep in " + hour + " by " + step + " of " + n, x.asleep(hour, 0), (n - 1 + hour * step) % n);
                    }
                }
            }
        }
        WatchSleep x = new WatchSleep();
        x.captain(1, 8, 1, 0);
        due.is("8 and 0", x.asleep(0, 0), 8);
        due.is("8 and 1 goes round", x.asleep(1, 0), 0);
        x.captain(1, 8, 9, 0);
        due.is("8 and 999 times 9", x.asleep(999, 0), 8);
    }

    private static void behind() {
        due.says("a lantern is moved at the POST behind it (n less 1: 0)");
        for (int n = 1; n <= 9; n++) {
            for (int who = 0; who < n; who++) {
                WatchSleep x = new WatchSleep();
                x.posts(n);
                for (int p = 0; p < n; p++) {
                    x.put(p, 1, p == who ? 1 : 0);
                }
                x.captain(3, 0, 0, 12);
                due.is("asleep at " + who, x.asleep(7, 0), who);
                due.is("the lantern of " + who + " of " + n, x.asleep(7, 1), who == n - 1 ? 0 : who + 1);
            }
        }
    }

    private static void shownAsLot() {
        due.says("3 SHOWN (under LOT): as LOT");
        WatchSleep x = new WatchSleep();
        for (int p = 0; p < 9; p++) {
            x.put(p, 1, 3 * p);
        }
        for (int hour : new int[] {0, 1, 2, 3, 4, 5, 6, 7, 998, 999}) {
            for (int seed : new int[] {0, 5, 999999}) {
                x.captain(0, 0, 0, seed);
                int who = x.asleep(hour, 0);
                due.is("the lantern of LOT in " + hour, x.asleep(hour, 1), who);
                x.captain(3, 8, 9, seed);
                due.is("asleep in " + hour, x.asleep(hour, 0), who);
                due.is("the lantern in " + hour, x.asleep(hour, 1), who == 8 ? 0 : who + 1);
            }
        }
    }

    private static void lazy() {
        due.says("4 LAZY (under ROUND): as ROUND in even HOURS; in odd ones as in the HOUR ahead");
        WatchSleep x = new WatchSleep();
        x.captain(4, 8, 1, 0);
        int[][] wants = {{0, 8}, {1, 8}, {2, 1}, {3, 1}, {998, 7}, {999, 7}};
        for (int[] want : wants) {
            due.is("asleep in " + want[0], x.asleep(want[0], 0), want[1]);
            due.is("the lantern in " + want[0], x.asleep(want[0], 1), want[1]);
        }
        x.posts(1);
        x.captain(4, 0, 9, 0);
        due.is("asleep of one in 999", x.asleep(999, 0), 0);
    }

    private static void lanterns() {
        due.says("The lantern of others is moved at the POST where one sleeps.");
        WatchSleep x = new WatchSleep();
        for (int p = 0; p < 8; p++) {
            x.put(p, 1, 0);
        }
        Due.write(x, "n-1");
        for (int kind = 0; kind <= 4; kind++) {
            x.captain(kind, 8, 0, 3);
            due.is("who sleeps, KIND " + kind, x.asleep(4, 0), 8);
            due.is("the lantern, KIND " + kind, x.asleep(4, 1), kind == 3 ? 0 : 8);
        }
    }
}
