import java.lang.reflect.Constructor;
import java.lang.reflect.Field;
import java.lang.reflect.Method;
import java.lang.reflect.Modifier;
import java.nio.file.Files;
import java.nio.file.Path;
import java.util.ArrayList;
import java.util.List;
import java.util.Set;
import java.util.TreeSet;

/** The public face, and those rules of LANGUAGE.md that can be seen from outside. */
public final class FaceTest {
    private static final String[] FACE = {"int person(int,int,int,int)", "int counts(int,int)", "int owe(int,int,int)",
        "int owes(int,int)", "int type(long,int)", "int clear()", "int fault()", "int item(int,int)",
        "int talk(int,int,int)", "int meet(int,int)", "int come(int)", "int disperse()", "int through(int)",
        "int soonest(int)", "int avoid()", "int waits(int,int)", "int leg(int,int,int)", "int way(int,int,int,int)",
        "int tell(int,int,int)", "int forget()", "int judge()", "int learns()", "int struck(int,int)",
        "int have(int,int,boolean)", "int firsts(int)", "int strikes()", "int part(int)", "int image(int)",
        "int from(int)", "int status(int)", "int count(int)", "long digest()"};
    private static int wrong = 0;

    private static void check(boolean right, String what) {
        if (!right) {
            wrong++;
            System.out.println(what);
        }
    }

    public static void main(String[] args) throws Exception {
        Class<?> c = AfterYou.class;
        check(Modifier.isFinal(c.getModifiers()) && Modifier.isPublic(c.getModifiers()), "not public and final");
        methods(c);
        for (Constructor<?> k : c.getDeclaredConstructors()) {
            check(Modifier.isPublic(k.getModifiers()) && k.getParameterCount() == 0, "another constructor: " + k);
        }
        fields(c);
        source();
        System.out.println(wrong == 0 ? "the face is as told" : wrong + " faults of the face");
        if (wrong != 0) {
            System.exit(1);
        }
    }

    private static void methods(Class<?> c) {
        Set<String> due = new TreeSet<>(List.of(FACE));
        Set<String> names = new TreeSet<>();
        for (String method : FACE) {
            names.add(method.substring(method.indexOf(' ') + 1, method.indexOf('(')));
        }
        List<Class<?>> all = new ArrayList<>(List.of(c));
        all.addAll(List.of(c.getDeclaredClasses()));
        check(all.size() <= 12, "too many classes: " + all.size());
        for (Class<?> k : all) {
            check(k == c || Modifier.isStatic(k.getModifiers()), "not static: " + k);
            for (Method m : k.getDeclaredMethods()) {
                List<String> types = new ArrayList<>();
                for (Class<?> t : m.getParameterTypes()) {
                    types.add(t.getName());
                }
                String told = m.getReturnType().getName() + " " + m.getName() + "(" + String.join(",", types) + ")";
                boolean shown = k == c && !Modifier.isPrivate(m.getModifiers());
                check(!shown || (Modifier.isPublic(m.getModifiers()) && due.remove(told)), "not told: " + told);
                check(shown || !names.contains(m.getName()), "bears a public name: " + k + " " + told);
                check(types.size() <= 7, "too many parameters: " + told);
            }
        }
        check(due.isEmpty(), "missing: " + due);
    }

    private static void fields(Class<?> c) throws Exception {
        Set<String> constants = new TreeSet<>(List.of("NONE", "BAD", "NO", "FULL"));
        for (Class<?> k : c.getDeclaredClasses()) {
            int inside = 0;
            for (Field f : k.getDeclaredFields()) {
                int how = f.getModifiers();
                check(!Modifier.isStatic(how) || Modifier.isFinal(how), "static, not final: " + f);
                inside += Modifier.isStatic(how) ? 0 : 1;
            }
            check(inside <= 20, "too many fields: " + k);
        }
        int own = 0;
        for (Field f : c.getDeclaredFields()) {
            int how = f.getModifiers();
            check(!Modifier.isStatic(how) || Modifier.isFinal(how), "static, not final: " + f);
            if (!Modifier.isPrivate(how)) {
                check(Modifier.isPublic(how) && constants.remove(f.getName()), "not told: " + f);
            }
            own += Modifier.isStatic(how) ? 0 : 1;
        }
        check(own <= 20, "too many fields: " + own);
        check(constants.isEmpty(), "missing: " + constants);
        check(AfterYou.NONE == -1 && AfterYou.BAD == -2 && AfterYou.NO == -3 && AfterYou.FULL == -4, "constants");
    }

    private static void source() throws Exception {
        Path file = Path.of(System.getProperty("afteryou.root", "."), "src/main/java/AfterYou.java");
        String text = Files.readString(file).replaceAll("(?s)/\\*.*?\\*/", "").replaceAll("//[^\n]*", "");
        String[] barred = {"throw", "throws", "try", "catch", "synchronized", "assert", "enum", "double", "float",
            "Object", "Thread", "hashCode", "toString", "var", "yield", "package"};
        for (String word : barred) {
            check(!text.matches("(?s).*\\b" + word + "\\b.*"), "barred: " + word);
        }
        check(!text.contains("->") && !text.contains("::"), "a lambda or a method reference");
        check(!text.matches("(?s).*Exact\\b.*"), "an Exact function");
        check(!text.contains("\""), "a text: each look at one may count as made");
        check(!text.matches("(?s).*\\bstatic\\s*\\{.*"), "a static block");
        for (String line : text.split("\n")) {
            check(!line.startsWith("import") || line.equals("import java.util.Arrays;"), "barred: " + line);
        }
        lengths(text.split("\n"));
    }

    /** A method begins with a line that ends in ") {" and no such word as if, and ends with a } below its start. */
    private static void lengths(String[] lines) {
        int methods = 0;
        for (int k = 0; k < lines.length; k++) {
            if (!lines[k].matches("( {4}| {8})(public|private|static|final|[a-zA-Z]\\w*)[^=]*\\) \\{")
                    || lines[k].matches(" *(if|for|while|switch) .*")) {
                continue;
            }
            String end = lines[k].replaceAll("\\S.*", "}");
            int last = k;
            while (last < lines.length && !lines[last].equals(end)) {
                last++;
            }
            methods++;
            check(last - k < 60, "a long method: " + lines[k].strip());
        }
        check(methods > 32, "only " + methods + " methods were found");
    }
}
