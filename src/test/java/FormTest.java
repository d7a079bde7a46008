import java.io.IOException;
import java.lang.reflect.Field;
import java.lang.reflect.Method;
import java.lang.reflect.Modifier;
import java.nio.file.Files;
import java.nio.file.Paths;
import java.util.ArrayList;
import java.util.Arrays;
import java.util.HashSet;
import java.util.List;
import java.util.Set;
import java.util.TreeSet;
import java.util.regex.Matcher;
import java.util.regex.Pattern;

/** The public face of the document, and what of LANGUAGE.md a look at the class and its source can tell. */
public final class FormTest {
    private static final String SOURCE = "src/main/java/WatchSleep.java";
    private static final String[] FACE = {
        "int posts(int)", "int put(int,int,int)", "int captain(int,int,int,int)", "int type(long,int)", "int clear()",
        "int read()", "int write(int)", "int erase()", "int fault()", "int asleep(int,int)", "int has(int)", "int tries()",
        "int two()", "int ladder(int)", "int knows()", "int best(int)", "int chance(int,int)", "int duke(int)",
        "int creak(int,int,int)", "long nights()", "int night(long,int)", "int tell(int)", "int forget()", "int judge()",
        "int sight(int,int,int)", "int blind()", "int rounds(int)", "int soon(int)", "int thefts(int,int,int)",
        "int doubt(int)", "int spy()", "int sign(int)", "int limb(int,int)", "int image(int)", "int from(int)",
        "int status(int)", "int count(int)", "long digest()"};
    /** What the interface says, and the call that it says it ahead of. */
    private static final String[][] PARTS = {{"a wall", "posts"}, {"thieves", "has"}, {"nights", "nights"},
        {"what was seen", "sight"}, {"what there is", "sign"}};
    private static final Due due = new Due("FormTest");

    public static void main(String[] args) throws IOException {
        face();
        constants();
        for (Class<?> c : classes()) {
            members(c);
        }
        due.isTrue("at most twelve classes", classes().size() <= 12);
        source(new String(Files.readAllBytes(Paths.get(SOURCE)), "ISO-8859-1"));
        due.end();
    }

    private static List<Class<?>> classes() {
        List<Class<?>> all = new ArrayList<>();
        all.add(WatchSleep.class);
        all.addAll(Arrays.asList(WatchSleep.class.getDeclaredClasses()));
        return all;
    }

    private static String form(Method m) {
        StringBuilder form = new StringBuilder(m.getReturnType().getName() + " " + m.getName() + "(");
        for (Class<?> type : m.getParameterTypes()) {
            form.append(form.charAt(form.length() - 1) == '(' ? "" : ",").append(type.getName());
        }
        return form.append(")").toString();
    }

    private static void face() {
        Set<String> found = new TreeSet<>();
        Set<String> names = new HashSet<>();
        for (Method m : WatchSleep.class.getDeclaredMethods()) {
            int how = m.getModifiers();
            if (Modifier.isPublic(how)) {
                found.add(form(m));
                names.add(m.getName());
                due.isTrue("of the object: " + m, !Modifier.isStatic(how));
            } else {
                due.isTrue("private: " + m, Modifier.isPrivate(how));
            }
        }
        Set<String> wanted = new TreeSet<>(Arrays.asList(FACE));
        due.isTrue("the face is " + found + ", due is " + wanted, found.equals(wanted));
        for (Class<?> c : classes()) {
            for (Method m : c.getDeclaredMethods()) {
                due.isTrue("no other bears a public name: " + m, Modifier.isPublic(m.getModifiers()) || !names.contains(m.getName()));
            }
        }
        due.isTrue("public", Modifier.isPublic(WatchSleep.class.getModifiers()));
        due.isTrue("final", Modifier.isFinal(WatchSleep.class.getModifiers()));
        due.is("one constructor", WatchSleep.class.getDeclaredConstructors().length, 1);
        due.is("a public one", WatchSleep.class.getConstructors().length, 1);
    }

    private static void constants() {
        int many = 0;
        for (Field f : WatchSleep.class.getDeclaredFields()) {
            if (Modifier.isPublic(f.getModifiers())) {
                many++;
                due.isTrue("a constant int: " + f, f.getType() == int.class && Modifier.isStatic(f.getModifiers()));
            } else {
                due.isTrue("private: " + f, Modifier.isPrivate(f.getModifiers()));
            }
        }
        due.is("constants", many, 4);
        due.is("NONE", WatchSleep.NONE, -1);
        due.is("BAD", WatchSleep.BAD, -2);
        due.is("NO", WatchSleep.NO, -3);
        due.is("FULL", WatchSleep.FULL, -4);
    }

    private static void members(Class<?> c) {
        int fields = 0;
        for (Field f : c.getDeclaredFields()) {
            if (!Modifier.isStatic(f.getModifiers())) {
                fields++;
            } else {
                due.isTrue("static and final: " + f, Modifier.isFinal(f.getModifiers()));
                boolean fits = Arrays.<Class<?>>asList(int.class, long.class, boolean.class, char.class, String.class, int[].class,
                    long[].class, char[].class, byte[].class).contains(f.getType());
                due.isTrue("a constant that may be: " + f, fits);
            }
        }
        due.isTrue("at most twenty fields: " + c, fields <= 20);
        for (Method m : c.getDeclaredMethods()) {
            due.isTrue("at most seven parameters: " + m, m.getParameterCount() <= 7);
            due.isTrue("no method of the compiler's own: " + m, !m.isSynthetic());
        }
        if (c != WatchSleep.class) {
            due.isTrue("static: " + c, Modifier.isStatic(c.getModifiers()));
            due.isTrue("not public: " + c, !Modifier.isPublic(c.getModifiers()) && !Modifier.isProtected(c.getModifiers()));
            due.is("no class inside: " + c, c.getDeclaredClasses().length, 0);
        }
    }

    private static void source(String source) {
        for (int i = 0; i < source.length(); i++) {
            if (source.charAt(i) > 126) {
                due.isTrue("signs 1 to 127 alone, at " + i, false);
            }
        }
        String code = source.replaceAll("(?s)/\\*.*?\\*/", "").replaceAll("//[^\n]*", "").replaceAll("\"[^\"\n]*\"", "\"\"");
        String[] none = {"throw", "throws", "try", "catch", "finally", "synchronized", "assert", "import", "package", "native",
            "transient", "volatile", "strictfp", "goto", "hashCode", "toString", "Object", "Thread", "Exception", "Error", "double",
            "float"};
        for (String word : none) {
            due.isTrue("no " + word, !Pattern.compile("\\b" + word + "\\b").matcher(code).find());
        }
        due.isTrue("no lambda", !code.contains("->") && !code.contains("::"));
        due.isTrue("nothing that ends in Exact", !code.contains("Exact"));
        due.isTrue("no joining of texts by +", !code.contains("\"\" +") && !code.contains("+ \"\""));
        Set<String> library = new TreeSet<>();
        Matcher m = Pattern.compile("\\b(Math|System|Integer|Long|Arrays|Character|String|StringBuilder)\\.(\\w+)").matcher(code);
        while (m.find()) {
            library.add(m.group());
        }
        Set<String> allowed = new TreeSet<>(Arrays.asList("Math.max", "Math.min", "Math.abs", "System.arraycopy"));
        due.isTrue("library calls " + library, allowed.containsAll(library));
        parts(source);
        objects(code);
        lengths(source);
    }

    /** The calls stand in the order of the document, under the words that it tells. */
    private static void parts(String source) {
        List<String> wanted = new ArrayList<>();
        for (String form : FACE) {
            String name = form.substring(form.indexOf(' ') + 1, form.indexOf('('));
            for (String[] part : PARTS) {
                if (part[1].equals(name)) {
                    wanted.add("---- " + part[0]);
                }
            }
            wanted.add(name);
        }
        List<String> found = new ArrayList<>();
        Matcher m = Pattern.compile("(?m)^    (?:// (---- .*)|public (?:int|long) (\\w+)\\(.*)$").matcher(source);
        while (m.find()) {
            found.add(m.group(1) != null ? m.group(1) : m.group(2));
        }
        due.isTrue("the parts are " + found + ", due is " + wanted, found.equals(wanted));
    }

    /** All is made with the object: a call makes nothing. */
    private static void objects(String code) {
        for (String line : code.split("\n")) {
            if (Pattern.compile("\\bnew\\b").matcher(line).find()) {
                boolean withTheObject = line.contains("final ") || line.trim().equals("images[i] = new Watch();");
                due.isTrue("made with the object: " + line.trim(), withTheObject);
            }
        }
    }

    private static void lengths(String source) {
        String[] lines = source.split("\n");
        for (int indent = 4; indent <= 8; indent += 4) {
            String pad = " ".repeat(indent);
            int begun = -1;
            for (int i = 0; i < lines.length; i++) {
                boolean method = lines[i].startsWith(pad) && lines[i].endsWith("{") && lines[i].contains("(")
                    && lines[i].charAt(indent) != ' ';
                if (method) {
                    begun = i;
                } else if (begun >= 0 && lines[i].equals(pad + "}")) {
                    due.isTrue("at most sixty lines: " + lines[begun].trim(), i - begun < 60);
                    begun = -1;
                }
            }
        }
    }
}
