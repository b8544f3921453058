import java.lang.reflect.Constructor;
import java.lang.reflect.Field;
import java.lang.reflect.Method;
import java.lang.reflect.Modifier;
import java.nio.file.Files;
import java.nio.file.Path;
import java.util.ArrayList;
import java.util.List;
import java.util.Set;
import java.util.TreeSet;
import java.util.regex.Matcher;
import java.util.regex.Pattern;

/** The face of the class, LANGUAGE.md's rules as far as they can be read off the file, and calls of any numbers. */
public final class FaceTest {
    private static final Set<String> FACE = new TreeSet<>(List.of("land(int,int)int", "drift(int,int)int",
        "ship(int,int)int", "shipIs(int,int)int", "bring(int,int)int", "tie(int,int,int,int)int",
        "knotIs(int,int,int)int", "as(int,int,int)int", "loose(int,int)int", "wind(int)int", "feed(long,int)int",
        "text(int)int", "untell(int)int", "hours(int)int", "draws(int)int", "seed(int)int", "then(int,int,int)int",
        "home(int,int)int", "soonest(int,int,int)int", "bestKnot(int,int)int", "who(int,int,int)int",
        "race(int,int,int)int", "voice(int,int,int,int)int", "body(int)int", "sheet(int,int,int)int",
        "put(int,int,int)int", "move(int,int,int,int,int)int", "lands(int)int", "judge(int,int)int", "image()int",
        "restore()int", "tell(int)int", "check()int", "count(int)int", "told(int)int"));

    private static int wrong;

    private static void fail(String what) {
        wrong++;
        System.out.println(what);
    }

    private static void face() {
        Class<?> c = KnottedWinds.class;
        if (!Modifier.isFinal(c.getModifiers()) || !Modifier.isPublic(c.getModifiers())) {
            fail("the class is not public and final");
        }
        Set<String> found = new TreeSet<>();
        Set<String> names = new TreeSet<>();
        for (Method m : c.getDeclaredMethods()) {
            if (Modifier.isPublic(m.getModifiers())) {
                names.add(m.getName());
                List<String> types = new ArrayList<>();
                for (Class<?> t : m.getParameterTypes()) {
                    types.add(t.getName());
                }
                found.add(m.getName() + "(" + String.join(",", types) + ")" + m.getReturnType().getName());
            } else if (!Modifier.isPrivate(m.getModifiers())) {
                fail("a member beyond the face: " + m);
            }
        }
        if (!found.equals(FACE)) {
            fail("the face is " + found);
        }
        for (Constructor<?> made : c.getDeclaredConstructors()) {
            if (!Modifier.isPublic(made.getModifiers()) || made.getParameterCount() != 0) {
                fail("a constructor beyond the face: " + made);
            }
        }
        fields(c, true);
        privateNames(c, names);
        for (Class<?> inside : c.getDeclaredClasses()) {
            fields(inside, false);
            privateNames(inside, names);
            if (!Modifier.isStatic(inside.getModifiers()) || Modifier.isPublic(inside.getModifiers())) {
                fail("not static, or public: " + inside);
            }
        }
        if (c.getDeclaredClasses().length > 11) {
            fail("more than twelve classes");
        }
    }

    private static void privateNames(Class<?> c, Set<String> names) {
        for (Method m : c.getDeclaredMethods()) {
            if ((c != KnottedWinds.class || Modifier.isPrivate(m.getModifiers())) && names.contains(m.getName())) {
                fail("bears the name of a public one: " + m);
            }
            if (m.getParameterCount() > 7) {
                fail("more than seven parameters: " + m);
            }
        }
    }

    private static void fields(Class<?> c, boolean outside) {
        int own = 0;
        for (Field f : c.getDeclaredFields()) {
            boolean isStatic = Modifier.isStatic(f.getModifiers());
            own += isStatic ? 0 : 1;
            if (isStatic && !Modifier.isFinal(f.getModifiers())) {
                fail("static and not final: " + f);
            }
            if (outside && !Modifier.isPrivate(f.getModifiers())) {
                fail("a field beyond the face: " + f);
            }
        }
        if (own > 20) {
            fail("more than twenty fields: " + c);
        }
    }

    private static void words() throws Exception {
        String source = Files.readString(Path.of("src/main/java/KnottedWinds.java"));
        String code = source.replaceAll("(?s)/\\*.*?\\*/", "").replaceAll("//[^\n]*", "");
        String[] none = {"throw", "throws", "try", "catch", "synchronized", "assert", "package", "import java\\.util\\.\\*",
            "volatile", "native", "transient", "Object", "Throwable", "Exception", "System\\.(?!arraycopy)",
            "[a-z]+Exact", "NaN", "hashCode", "toString", "equals", "protected"};
        for (String word : none) {
            if (Pattern.compile("\\b" + word + "\\b").matcher(code).find()) {
                fail("a word that the rules leave out: " + word);
            }
        }
        for (String sign : new String[] {"->", "::"}) {
            if (code.contains(sign)) {
                fail("a sign that the rules leave out: " + sign);
            }
        }
        for (int i = 0; i < source.length(); i++) {
            if (source.charAt(i) > 127) {
                fail("a sign above 127");
            }
        }
        lengths(code);
    }

    private static void lengths(String code) {
        Matcher heads = Pattern.compile("(?m)^( {4}| {8})[A-Za-z][A-Za-z\\[\\] ]* ?[A-Za-z]*\\([^;{]*\\) \\{$").matcher(code);
        int methods = 0;
        while (heads.find()) {
            methods++;
            int end = code.indexOf("\n" + heads.group(1) + "}", heads.end());
            long lines = code.substring(heads.start(), end).lines().count();
            if (lines > 60) {
                fail(lines + " lines: " + heads.group());
            }
        }
        if (methods < FACE.size()) {
            fail("only " + methods + " methods were read");
        }
    }

    /** Any numbers, in any state: what is thrown ends the test. */
    private static void anyNumbers() throws Exception {
        int[] some = {Integer.MIN_VALUE, Integer.MIN_VALUE + 1, -1000000001, -64, -1, 0, 1, 2, 3, 4, 5, 6, 8, 15, 16, 24,
            25, 31, 32, 48, 60, 63, 64, 69, 70, Integer.MAX_VALUE - 1, Integer.MAX_VALUE};
        Method[] methods = KnottedWinds.class.getDeclaredMethods();
        java.util.Arrays.sort(methods, (a, b) -> a.toString().compareTo(b.toString()));
        int z = 1;
        for (int run = 0; run < 400; run++) {
            KnottedWinds x = new KnottedWinds();
            for (int i = 0; i < 512; i++) {
                z = z * 1664525 + 1013904223;
                Method m = methods[(z >>> 8) % methods.length];
                if (!Modifier.isPublic(m.getModifiers())) {
                    continue;
                }
                Object[] args = new Object[m.getParameterCount()];
                for (int a = 0; a < args.length; a++) {
                    z = z * 1664525 + 1013904223;
                    int v = (z >>> 28) < 5 ? some[(z >>> 8) % some.length] : (z >>> 8) % (a == 0 ? 5 : 9);
                    if (m.getParameterTypes()[a] == long.class) {
                        args[a] = (long) v * 0x100000001L;
                    } else {
                        args[a] = v;
                    }
                }
                m.invoke(x, args);
            }
        }
    }

    public static void main(String[] args) throws Exception {
        face();
        words();
        anyNumbers();
        System.out.println(wrong == 0 ? "the face and the rules are kept" : wrong + " faults");
        if (wrong != 0) {
            System.exit(1);
        }
    }
}
