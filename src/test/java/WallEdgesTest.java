/** THE TEXT and THE WALL at the edges that the document's words name. */
public final class WallEdgesTest {
    private static final Due due = new Due("WallEdgesTest");

    public static void main(String[] args) {
        bytes();
        length();
        empty();
        postsFirst();
        postsOnce();
        numberOfPosts();
        postsOfItems();
        valuesOfItems();
        figures();
        words();
        everyByte();
        blanks();
        blanksNeeded();
        endedBySemicolons();
        tooEarly();
        firstFault();
        takesThePlace();
        asAtFirst();
        nothingToldThen();
        restStays();
        due.end();
    }

    private static WatchSleep typed(String text) {
        WatchSleep x = Scene.rich(6);
        Scene.typeLong(x, text);
        return x;
    }

    /** -10 less the FAULT; all stays, STATUS too. */
    private static void fault(String text, int place) {
        Scene.idle(due, "read() of '" + text + "'", () -> typed(text), x -> x.read(), -10 - place);
    }

    private static WatchSleep reads(String text, int n) {
        WatchSleep x = typed(text);
        Scene.taken(due, "read() of '" + text + "'", x, y -> y.read(), n);
        due.is("count(0) of '" + text + "'", x.count(0), n);
        return x;
    }

    private static void number(String what, WatchSleep x, int post, int row, int want) {
        due.is(what + ": number " + row + " of POST " + post, x.put(post, row, want), want);
    }

    private static void bytes() {
        due.says("The lowest n (1 .. 8) bytes of v, the highest of them first, come to THE TEXT: how many it has. BAD; FULL.");
        WatchSleep x = new WatchSleep();
        due.is("one byte, the lowest", x.type(0x7172737475767770L, 1), 1);
        due.is("four bytes, the lowest", x.type(0x717273746f737473L, 4), 5);
        due.is("two bytes, the lowest", x.type(0xffffffffffff363bL, 2), 7);
        due.is("posts6;", x.read(), 6);
        x.clear();
        due.is("eight bytes", x.type(0x706f73747320393bL, 8), 8);
        due.is("posts 9;", x.read(), 9);
        x.clear();
        due.is("seven bytes", x.type(0xff706f737473333bL, 7), 7);
        due.is("posts3;", x.read(), 3);
        // Bytes of 128 and more are no letters, however they are signed.
        for (int n = 1; n <= 8; n++) {
            x.clear();
            due.is("type(-1, " + n + ")", x.type(-1L, n), n);
            due.is("read() of bytes 255", x.read(), -10);
        }
        // 0xf0 is 0x70 and 128, 0xbb is ; and 128.
        x.clear();
        x.type(0xf06f73747320333bL, 8);
        due.is("read() of a byte 240 for p", x.read(), -10);
        x.clear();
        x.type(0x706f7374732033bbL, 8);
        due.is("read() of a byte 187 for ;", x.read(), -17);
        x.clear();
        x.type(0x706f737473a0333bL, 8);
        due.is("read() of a byte 160 for a blank", x.read(), -15);
    }

    private static void length() {
        due.says("THE WALL is a TEXT (200 bytes at most) of ITEMS, each ended by ;");
        for (int room = 1; room <= 8; room++) {
            WatchSleep x = new WatchSleep();
            String blanks = " ".repeat(200 - room);
            Scene.typeLong(x, blanks);
            int left = room;
            if (room < 8) {
                Scene.refused(due, "type by one more than there is room for", () -> filled(200 - left),
                    y -> y.type(0x706f737473313b3bL, left + 1), -4, Scene.AS_FULL);
            }
            due.is("type by as many as there is room for", x.type(-1L, room), 200);
            due.is("count(3)", x.count(3), 200);
        }
        for (int n = 1; n <= 8; n++) {
            int many = n;
            Scene.refused(due, "type of a full TEXT", () -> filled(200), y -> y.type(0x3131313131313131L, many), -4,
                Scene.AS_FULL);
        }
        due.says("THE TEXT is empty: how many it had.");
        WatchSleep x = filled(200);
        due.is("clear() of a full one", x.clear(), 200);
        due.is("clear() of an empty one", x.clear(), 0);
        due.is("type after clear()", x.type(0x31, 1), 1);
        due.says("(200 bytes at most)");
        String wall = "posts 9;worth 8 99" + " ".repeat(181) + ";";
        due.is("its length", wall.length(), 200);
        number("200 bytes", reads(wall, 9), 8, 0, 99);
        fault(wall.substring(0, 199) + "x", 199);
        fault(wall.substring(0, 199) + " ", 200);
        fault(" ".repeat(200), 200);
        fault(" ".repeat(199) + ";", 199);
        fault("a".repeat(200), 0);
        fault("1".repeat(200), 0);
        reads(" ".repeat(192) + "posts 1;", 1);
        fault(" ".repeat(193) + "posts 1", 200);
    }

    /** A TEXT that can be read, of so many bytes. */
    private static WatchSleep filled(int bytes) {
        return typed("posts 6;worth 5 66;" + " ".repeat(bytes - 19));
    }

    private static void empty() {
        due.says("the TEXT's length, if it ends too early (an empty one, too)");
        fault("", 0);
        fault(" ", 1);
        WatchSleep x = new WatchSleep();
        due.is("read() at first", x.read(), -10);
        x.type(0x31, 1);
        x.clear();
        due.is("read() of a TEXT that is empty again", x.read(), -10);
    }

    private static void postsFirst() {
        due.says("anything ahead of it");
        fault("worth 0 1;posts 3;", 0);
        fault("share 0 1;posts 3;", 0);
        fault("need 0 1;posts 3;", 0);
        fault("  need 0 1;posts 3;", 2);
        fault(";posts 3;", 0);
        fault(" ;posts 3;", 1);
        fault("3 posts 3;", 0);
        fault("x posts 3;", 0);
        fault("\u0000posts 3;", 0);
    }

    private static void postsOnce() {
        due.says("posts n (1 .. 9, once, first of all)");
        fault("posts 3;posts 3;", 8);
        fault("posts 3; posts 4;", 9);
        fault("posts 3;worth 0 1;posts 3;", 18);
        fault("posts 3 posts 3;", 8);
        fault("posts posts 3;", 6);
    }

    private static void numberOfPosts() {
        due.says("posts n (1 .. 9, once, first of all)");
        for (int n = 1; n <= 9; n++) {
            reads("posts " + n + ";", n);
            reads("posts 0" + n + ";", n);
        }
        fault("posts 0;", 6);
        fault("posts 00;", 6);
        fault("posts 10;", 6);
        fault("posts 99;", 6);
        fault("posts  10;", 7);
    }

    private static void postsOfItems() {
        due.says("worth p v; share p v; need p v");
        String[] words = {"worth", "share", "need"};
        for (int n = 1; n <= 9; n++) {
            for (int row = 0; row < 3; row++) {
                String ahead = "posts " + n + ";" + words[row] + " ";
                number("the last POST", reads(ahead + (n - 1) + " 11;", n), n - 1, row, 11);
                number("the first POST", reads(ahead + "0 11;", n), 0, row, 11);
                number("the first POST", reads(ahead + "00 11;", n), 0, row, 11);
                fault(ahead + n + " 11;", ahead.length());
                fault(ahead + "99 11;", ahead.length());
                fault(ahead + "-1 11;", ahead.length());
            }
        }
    }

    private static void valuesOfItems() {
        due.says("a number not as told");
        int[] most = {99, 99, 12};
        String[] words = {"worth", "share", "need"};
        for (int row = 0; row < 3; row++) {
            String ahead = "posts 4;" + words[row] + " 3 ";
            number("the greatest", reads(ahead + most[row] + ";", 4), 3, row, most[row]);
            number("the least", reads(ahead + "0;", 4), 3, row, 0);
            number("the least", reads(ahead + "00;", 4), 3, row, 0);
            fault(ahead + (most[row] + 1) + ";", ahead.length());
            fault(ahead + "-1;", ahead.length());
            fault(ahead + "100;", ahead.length());
        }
        fault("posts 4;need 3 99;", 15);
        number("told twice", reads("posts 4;need 3 12;need 3 1;", 4), 3, 2, 1);
        fault("posts 4;need 3 12;need 3 13;", 25);
    }

    private static void figures() {
        due.says("figures (1 or 2 are one number)");
        number("two figures", reads("posts 4;worth 03 07;", 4), 3, 0, 7);
        number("one figure", reads("posts 4;worth 3 7;", 4), 3, 0, 7);
        due.says("a run of three figures or more (at its first one)");
        fault("posts 003;", 6);
        fault("posts 3;worth 000 1;", 14);
        fault("posts 3;worth 0 001;", 16);
        fault("posts 3;worth 0 0000000001;", 16);
        fault("posts 3;worth 001;", 14);
        fault("posts 3;worth 0 1 234;", 18);
        fault("posts 3;123;", 8);
        fault("123", 0);
        fault("posts 123", 6);
        fault("posts 3;worth 0 123", 16);
    }

    private static void words() {
        due.says("a word that is none");
        String[] none = {"post", "postss", "pposts", "posta", "poszs", "worths", "wort", "sharp", "shares", "needs", "nee", "a", "z",
            "price", "hare", "worthshare"};
        for (String word : none) {
            fault(word + " 3;", 0);
            fault("posts 3;" + word + " 0 1;", 8);
            fault("posts 3;worth 0 1;" + word + " 0 1;", 18);
        }
        // Each letter of each word counts.
        for (String word : new String[] {"posts", "worth", "share", "need"}) {
            for (int i = 0; i < word.length(); i++) {
                String other = word.substring(0, i) + (char) (word.charAt(i) - 1) + word.substring(i + 1);
                if (word.equals("posts")) {
                    fault(other + " 3;", 0);
                } else {
                    fault("posts 3;" + other + " 0 1;", 8);
                }
            }
        }
        fault("Posts 3;", 0);
        fault("posts 3;Worth 0 1;", 8);
        fault("pOsts 3;", 0);
        fault("posts 3;wOrth 0 1;", 8);
        fault("pos ts 3;", 0);
        // A word that the end cuts off is none as well.
        fault("post", 0);
        fault("posts 3;wort", 8);
    }

    /** 256 bytes behind each beginning. */
    private static void everyByte() {
        due.says("a byte that begins none, too");
        for (int c = 0; c < 256; c++) {
            String sign = "" + (char) c;
            boolean figure = c >= '0' && c <= '9';
            boolean letter = c >= 'a' && c <= 'z';
            boolean blank = c == 32;
            fault(sign, blank ? 1 : 0);
            fault("posts" + sign, letter ? 0 : blank || figure && c != '0' ? 6 : 5);
            fault("posts " + sign, blank || figure && c != '0' ? 7 : 6);
            if (c == ';') {
                reads("posts 3" + sign, 3);
            } else {
                fault("posts 3" + sign, figure ? 6 : blank ? 8 : 7);
            }
            if (blank) {
                reads("posts 3;" + sign, 3);
            } else {
                fault("posts 3;" + sign, 8);
            }
            fault("posts 3;worth" + sign, letter ? 8 : blank || c >= '0' && c <= '2' ? 14 : 13);
            fault("posts 3;worth 0" + sign, figure && c > '2' ? 14 : blank || figure ? 16 : 15);
            if (c == ';') {
                number("behind a number", reads("posts 3;need 2 1" + sign, 3), 2, 2, 1);
            } else {
                fault("posts 3;need 2 1" + sign, c >= '0' && c <= '2' || blank ? 17 : figure ? 15 : 16);
                fault("posts 3;need 2 1 " + sign, blank ? 18 : 17);
            }
        }
    }

    private static void blanks() {
        due.says("blanks (32), any number, ahead of, between and behind TOKENS");
        String[] tokens = {"posts", "3", ";", "worth", "0", "7", ";", "need", "2", "12", ";"};
        for (int many = 0; many <= 10; many++) {
            String gap = " ".repeat(many);
            StringBuilder wall = new StringBuilder(gap);
            for (String token : tokens) {
                wall.append(token).append(token.equals("0") || token.equals("2") ? " " : "").append(gap);
            }
            WatchSleep x = reads(wall.toString(), 3);
            number(many + " blanks", x, 0, 0, 7);
            number(many + " blanks", x, 2, 2, 12);
        }
        for (char other : new char[] {'\t', '\n', '\r', '\u000b', '\f', '\u001f', '!', '\u00a0', '\u0000'}) {
            fault("posts" + other + "3;", 5);
            fault(other + "posts 3;", 0);
            fault("posts 3;" + other, 8);
        }
    }

    private static void blanksNeeded() {
        due.says("(needed only between two words, two numbers)");
        WatchSleep x = reads("posts3;worth0 7;need2 12;", 3);
        number("no blank that is not needed", x, 0, 0, 7);
        number("no blank that is not needed", x, 2, 2, 12);
        // Without it two numbers are one, two words are one.
        fault("posts 3;worth 07;", 14);
        fault("posts 3;worth 02;", 16);
        fault("posts 3;worth 123;", 14);
        fault("postsposts 3;", 0);
        // A number and a word need none, so the word is a TOKEN of its own.
        fault("posts 3worth 0 1;", 7);
        fault("posts 3;worth 0 1share 0 1;", 17);
        fault("posts 3;worth 0share 1;", 15);
    }

    private static void endedBySemicolons() {
        due.says("of ITEMS, each ended by ; :");
        fault("posts 3", 7);
        fault("posts 3 worth 0 1;", 8);
        fault("posts 3;worth 0 1", 17);
        fault("posts 3;worth 0 1 share 0 1;", 18);
        fault("posts 3;;", 8);
        fault("posts 3; ;", 9);
        fault("posts 3;worth 0 1;;", 18);
        fault("posts;3;", 5);
        fault("posts 3;worth;0 1;", 13);
        fault("posts 3;worth 0;1;", 15);
        fault("posts 3;worth 0 1 2;", 18);
        fault("posts 3 3;", 8);
        fault("posts 3,", 7);
    }

    private static void tooEarly() {
        due.says("the TEXT's length, if it ends too early");
        String[] begun = {"posts", "posts 3", "posts 3;worth", "posts 3;worth 0", "posts 3;worth 0 1", "posts 3;share 2 99",
            "posts 3;need 2 12", "posts 3;worth 0 1;need", "posts 3;worth 0 1;need 0"};
        for (String text : begun) {
            for (int blanks = 0; blanks <= 3; blanks++) {
                fault(text + " ".repeat(blanks), text.length() + blanks);
            }
        }
    }

    private static void firstFault() {
        due.says("the place of the first byte of the first TOKEN that can not stand there");
        fault("posts 3;worth 3 100;", 14);
        fault("posts 0;worth", 6);
        fault("posts 10;;;", 6);
        fault("posts 3;worth 0 100", 16);
        fault("posts 3;price 9 100;", 8);
        fault("posts 3;worth 0 1;need 3 1", 23);
        // 18 may be a WORTH but is no NEED.
        reads("posts 3;worth 0 18;", 3);
        fault("posts 3;need 0 18;", 15);
        // The POST may be one of 9, but not of 3, as told ahead.
        fault("posts 3;worth 8 1;", 14);
    }

    private static void takesThePlace() {
        due.says("THE WALL is read: how many POSTS. -10 less the FAULT: all stays.");
        Scene.taken(due, "read() of fewer POSTS", typed("posts 1;"), x -> x.read(), 1);
        Scene.taken(due, "read() of more POSTS", typed("posts 9;"), x -> x.read(), 9);
        WatchSleep x = typed("posts 9;");
        due.is("POST 8 ahead", x.put(8, 0, 1), -2);
        x.read();
        due.is("POST 8 then", x.put(8, 0, 1), 10);
        Scene.typeLong(x, "posts 1;");
        x.read();
        due.is("POST 1 then", x.put(1, 0, 1), -2);
        due.is("POST 0 then", x.put(0, 0, 1), 10);
        // A FAULT behind ITEMS that were told well leaves all as it was.
        fault("posts 9;worth 0 1;share 0 2;need 0 3;worth 9 1;", 43);
    }

    private static void asAtFirst() {
        due.says("A WALL that is read takes the place of n, WORTHS, SHARES, NEEDS (as at first, if not told)");
        WatchSleep x = reads("posts 6;worth 1 0;share 2 0;need 3 5;", 6);
        for (int p = 0; p < 6; p++) {
            number("WORTH", x, p, 0, p == 1 ? 0 : 10);
            number("SHARE", x, p, 1, p == 2 ? 0 : 1);
            number("NEED", x, p, 2, p == 3 ? 5 : 0);
        }
        // What an earlier WALL told is not told by the next one.
        Scene.typeLong(x, "posts 6;worth 0 1;");
        due.is("read() again", x.read(), 6);
        for (int p = 0; p < 6; p++) {
            number("WORTH again", x, p, 0, p == 0 ? 1 : 10);
            number("SHARE again", x, p, 1, 1);
            number("NEED again", x, p, 2, 0);
        }
        // Nor is what was told ahead of a FAULT.
        Scene.typeLong(x, "posts 6;worth 5 99;share 5 99;need 5 9;x");
        due.is("read() of a FAULT", x.read(), -10 - 39);
        Scene.typeLong(x, "posts 6;");
        due.is("read() behind a FAULT", x.read(), 6);
        number("WORTH behind a FAULT", x, 5, 0, 10);
        number("SHARE behind a FAULT", x, 5, 1, 1);
        number("NEED behind a FAULT", x, 5, 2, 0);
    }

    private static void nothingToldThen() {
        due.says("no HOURS of a NIGHT, SIGHTS, THEFTS are told then, START is 0.");
        WatchSleep x = Scene.full(6);
        due.is("HOURS ahead", x.count(2), 12);
        due.is("SIGHTS ahead", x.count(1), 12);
        due.is("read()", x.read(), 6);
        due.is("HOURS then", x.count(2), 0);
        due.is("SIGHTS then", x.count(1), 0);
        for (int p = 0; p < 6; p++) {
            x.doubt(p);
            due.fraction("no THEFTS of TRIED 0 then", x, "1", "1");
        }
        due.is("rounds(0) then", x.rounds(0), 36);
        due.is("judge() then", x.judge(), -1);
        due.is("the next HOUR is the first", x.tell(0), 1);
        due.is("the next SIGHT is 0", x.sight(0, 0, 0), 0);
        // STEP 5 and the KIND stay: the rule asks for START.
        Due.write(x, "s");
        due.is("START then", x.asleep(0, 0), 0);
        Due.write(x, "t");
        due.is("STEP then", x.asleep(0, 0), 5);
    }

    private static void restStays() {
        due.says("A WALL that is read takes the place of n, WORTHS, SHARES, NEEDS");
        WatchSleep x = Scene.rich(6);
        due.is("bytes", x.count(3), 38);
        due.is("read()", x.read(), 7);
        due.is("THE TEXT stays", x.count(3), 38);
        due.is("THE RULE stays", x.count(4), 5);
        // By 6 POSTS the last one has 6 of 21 SHARES and a WORTH of 35.
        due.fraction("THE FRACTION stays", x, "10", "1");
        due.is("read() again", x.read(), 7);
        WatchSleep twin = Scene.rich(6);
        x.from(0);
        twin.from(0);
        due.is("IMAGE 0 stays", x.digest(), twin.digest());
        x.from(1);
        twin.from(1);
        due.is("IMAGE 1 stays", x.digest(), twin.digest());
    }
}
