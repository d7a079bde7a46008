import java.io.IOException;
import java.math.BigInteger;
import java.nio.file.Files;
import java.nio.file.Paths;

/** Counts and prints the answers that are not the ones that are due. */
final class Due {
    private static final String DOCUMENT = "../shared/DOC.md";

    private final String test;
    private String sentence = "";
    private String document;
    private int checks;
    private int wrong;

    Due(String test) {
        this.test = test;
    }

    void is(String what, long got, long want) {
        checks++;
        if (got != want) {
            wrong++;
            if (wrong <= 50) {
                System.out.println(test + ": " + sentence + what + " answered " + got + ", due is " + want);
            }
        }
    }

    void isTrue(String what, boolean so) {
        is(what, so ? 1 : 0, 1);
    }

    /** What comes next tests these words of the document, which have to stand there so. */
    void says(String words) {
        sentence = "\"" + words + "\": ";
        if (!document().isEmpty()) {
            isTrue("stands in the document", document().contains(flat(words)));
        }
    }

    private String document() {
        if (document == null) {
            try {
                document = flat(new String(Files.readAllBytes(Paths.get(DOCUMENT)), "UTF-8"));
            } catch (IOException e) {
                // The answers can be tested without it.
                System.out.println(test + ": no " + DOCUMENT + ", its words are not looked up");
                document = "";
            }
        }
        return document;
    }

    private static String flat(String text) {
        return text.replaceAll("\\s+", " ");
    }

    /** THE FRACTION, by sign() and limb(). */
    void fraction(String what, WatchSleep x, String above, String below) {
        fraction(what, x, new BigInteger(above), new BigInteger(below));
    }

    void fraction(String what, WatchSleep x, BigInteger above, BigInteger below) {
        is(what + ": sign", x.sign(0), above.signum());
        limbs(what + ": above", x, 0, above);
        limbs(what + ": below", x, 1, below);
    }

    private void limbs(String what, WatchSleep x, int which, BigInteger v) {
        int many = (v.bitLength() + 29) / 30;
        is(what + ", limbs", x.sign(1 + which), many);
        for (int i = 0; i < many; i++) {
            is(what + ", limb " + i, x.limb(which, i), v.shiftRight(30 * i).intValue() & ((1 << 30) - 1));
        }
        is(what + ", behind the limbs", x.limb(which, many), -1);
    }

    /** Of THE FRACTION what is above (0), below (1). */
    static BigInteger number(WatchSleep x, int which) {
        BigInteger v = BigInteger.ZERO;
        for (int i = x.sign(1 + which) - 1; i >= 0; i--) {
            v = v.shiftLeft(30).add(BigInteger.valueOf(x.limb(which, i)));
        }
        return v;
    }

    void end() {
        System.out.println(test + ": " + checks + " answers, " + wrong + " not as due");
        if (wrong != 0) {
            System.exit(1);
        }
    }

    /** THE TEXT becomes this one. */
    static void type(WatchSleep x, String text) {
        x.clear();
        for (int i = 0; i < text.length(); i++) {
            x.type(text.charAt(i), 1);
        }
    }

    /** THE RULE becomes this one. */
    static void write(WatchSleep x, String rule) {
        x.erase();
        for (int i = 0; i < rule.length(); i++) {
            x.write(rule.charAt(i));
        }
    }
}
