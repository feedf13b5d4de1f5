import java.lang.reflect.Constructor;
import java.lang.reflect.Field;
import java.lang.reflect.Method;
import java.lang.reflect.Modifier;
import java.nio.file.Files;
import java.nio.file.Path;
import java.util.Set;
import java.util.TreeSet;
import java.util.regex.Matcher;
import java.util.regex.Pattern;

/** What of LANGUAGE.md can be seen from the file's text and from the compiled class. */
public final class RulesTest {
    private static final Due due = new Due();
    private static final String FACE = "int make(int,int,int);int told(int,int);int level(int);int flood();int type(long,int);"
        + "int delta();int villages();int count(int);int village(int,int);int of(int,int);int ends(int,int);int cheapest(int);"
        + "int worth(int);int vote();int share(int,int,int);int lay(int);int step(int);int back(int);int at(int);int road(int);"
        + "int sinks(int,int);int toll(int);int goes();int weight(int,int);long odds(int,int);int weeks(int);int seed(int);"
        + "int leave();int image();int restore();int leaves(int,int,int,int);int sheet(int,int,int);int drop(int);"
        + "int item(int,int,int,int);int film(int,int,int,int)";

    public static void main(String[] args) throws Exception {
        face();
        classesInside();
        String code = Files.readString(Path.of("src/main/java/DeltaRoad.java"))
            .replaceAll("(?s)/\\*.*?\\*/", "").replaceAll("//[^\n]*", "").replaceAll("'.'", "' '");
        words(code);
        methods(code);
        due.end("RulesTest");
    }

    private static void face() {
        Set<String> want = new TreeSet<>(Set.of(FACE.split(";")));
        Set<String> got = new TreeSet<>();
        for (Method m : DeltaRoad.class.getDeclaredMethods()) {
            StringBuilder b = new StringBuilder();
            for (Class<?> c : m.getParameterTypes()) {
                b.append(b.length() == 0 ? "" : ",").append(c.getName());
            }
            if (Modifier.isPublic(m.getModifiers()) && !Modifier.isStatic(m.getModifiers())) {
                got.add(m.getReturnType().getName() + " " + m.getName() + "(" + b + ")");
            } else {
                due.is("private: " + m.getName(), Modifier.isPrivate(m.getModifiers()) ? 1 : 0, 1);
            }
        }
        due.is("the face's methods, " + got, got.equals(want) ? 1 : 0, 1);
        due.is("public and final", DeltaRoad.class.getModifiers(), Modifier.PUBLIC | Modifier.FINAL);
        due.is("constructors", DeltaRoad.class.getDeclaredConstructors().length, 1);
        for (Constructor<?> c : DeltaRoad.class.getDeclaredConstructors()) {
            due.is("constructor", c.getParameterCount() * 100 + c.getModifiers(), Modifier.PUBLIC);
        }
        int open = 0;
        for (Field f : DeltaRoad.class.getDeclaredFields()) {
            open += Modifier.isPrivate(f.getModifiers()) ? 0 : 1;
        }
        due.is("constants", open, 8);
        due.is("BAD", DeltaRoad.BAD, -1);
        due.is("NOT", DeltaRoad.NOT, -2);
        due.is("FULL", DeltaRoad.FULL, -3);
        due.is("NONE", DeltaRoad.NONE, -4);
        due.is("NULL", DeltaRoad.NULL, -11);
        due.is("CAST", DeltaRoad.CAST, -12);
        due.is("INDEX", DeltaRoad.INDEX, -13);
        due.is("SIZE", DeltaRoad.SIZE, -14);
    }

    private static void classesInside() {
        Set<String> open = new TreeSet<>();
        for (Method m : DeltaRoad.class.getDeclaredMethods()) {
            if (Modifier.isPublic(m.getModifiers())) {
                open.add(m.getName());
            } else {
                due.is("named like a public one: " + m.getName(), FACE.contains(" " + m.getName() + "(") ? 1 : 0, 0);
            }
        }
        due.is("at most some twelve classes", DeltaRoad.class.getDeclaredClasses().length <= 11 ? 1 : 0, 1);
        for (Class<?> c : DeltaRoad.class.getDeclaredClasses()) {
            due.is("static and private: " + c, c.getModifiers() & (Modifier.STATIC | Modifier.PRIVATE),
                Modifier.STATIC | Modifier.PRIVATE);
            int fields = 0;
            for (Field f : c.getDeclaredFields()) {
                boolean fixed = Modifier.isFinal(f.getModifiers());
                due.is("static and final: " + f, Modifier.isStatic(f.getModifiers()) && !fixed ? 1 : 0, 0);
                fields += Modifier.isStatic(f.getModifiers()) ? 0 : 1;
            }
            due.is("fields of " + c, fields <= 20 ? 1 : 0, 1);
            for (Method m : c.getDeclaredMethods()) {
                due.is("named like a public one: " + m, open.contains(m.getName()) ? 1 : 0, 0);
            }
        }
    }

    private static void words(String code) {
        String[] never = {"\\bthrow\\b", "\\bthrows\\b", "\\btry\\b", "\\bcatch\\b", "\\bsynchronized\\b", "\\bassert\\b", "->", "::",
            "\\bpackage\\b", "\\bprotected\\b", "Exact\\b", "\\bdouble\\b", "\\bfloat\\b", "\\bequals\\b", "\\bhashCode\\b",
            "\\btoString\\b", "\\bSystem\\.(?!arraycopy)", "\\bThread\\b", "\\bRandom\\b", "\\bMath\\.random\\b", "static \\{",
            "\\bvar\\b", "\\bObject\\b", "\\.stream\\b", "@"};
        for (String word : never) {
            due.is("never: " + word, Pattern.compile(word).matcher(code).find() ? 1 : 0, 0);
        }
        Matcher imports = Pattern.compile("import ([^;]*);").matcher(code);
        while (imports.find()) {
            due.is("import " + imports.group(1), imports.group(1).equals("java.util.Arrays") ? 1 : 0, 1);
        }
        Matcher calls = Pattern.compile("\\b(Math|Integer|Long|Arrays|System)\\.(\\w+)").matcher(code);
        Set<String> known = Set.of("Math.max", "Math.min", "Math.abs", "Integer.bitCount", "Arrays.fill", "System.arraycopy");
        while (calls.find()) {
            due.is("library: " + calls.group(), known.contains(calls.group()) ? 1 : 0, 1);
        }
        for (int i = 0; i < code.length(); i++) {
            char sign = code.charAt(i);
            due.is("sign " + (int) sign, sign == '\n' || sign >= 32 && sign < 127 ? 1 : 0, 1);
        }
    }

    private static void methods(String code) {
        Matcher heads = Pattern.compile("\n( {4}| {8})(?! |if|for|while|switch)[\\w\\[\\] ]+\\(([^()]*)\\) \\{\n").matcher(code);
        int seen = 0;
        while (heads.find()) {
            seen++;
            int end = code.indexOf("\n" + heads.group(1) + "}", heads.end() - 1);
            long lines = code.substring(heads.start() + 1, end + 1).lines().count();
            due.is("long: " + heads.group().trim(), lines <= 60 ? 1 : 0, 1);
            int parameters = heads.group(2).isEmpty() ? 0 : heads.group(2).split(",").length;
            due.is("wide: " + heads.group().trim(), parameters <= 7 ? 1 : 0, 1);
        }
        due.is("methods seen: those of the face at least", seen >= 36 ? 1 : 0, 1);
    }
}
