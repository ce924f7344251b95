import java.io.IOException;
import java.lang.reflect.Constructor;
import java.lang.reflect.Field;
import java.lang.reflect.Method;
import java.lang.reflect.Modifier;
import java.nio.file.Files;
import java.nio.file.Path;
import java.util.Arrays;
import java.util.List;
import java.util.Set;
import java.util.TreeSet;
import java.util.regex.Matcher;
import java.util.regex.Pattern;

/** The public face, and what can be seen of the rules of LANGUAGE.md. */
public final class FaceTest {
    private static final Check CHECK = new Check("face");
    private static final List<String> FACE = List.of(
        "long saw(int,int,boolean)", "long sum(int,int,boolean)", "long both(int,int,boolean)",
        "long three(int,int,int,boolean)", "long above(int,int,int)", "int chain(int,int,int)",
        "int minus(int,int,int)", "int alike(int,int,int)", "int sorts(int,int)", "long steps(int,int,int,int)",
        "long triangle(int,int,int)", "long inside(int,int,int)", "long pyramid(int,int,int)", "int of(int)",
        "boolean set(int,int,int,int)", "boolean turn()", "boolean shift(int)", "boolean times(int,int,int,int)",
        "boolean invert()", "long phi(int)", "int kind()", "int order()", "long word(int)", "int same(int,int,int)",
        "int ring(int,int)", "int rings(int,int)", "int twins(int,int)", "int feed(int,int,int,int,int)",
        "boolean end(int)", "int tell()", "long told(boolean)", "int count(int)");

    private FaceTest() {
    }

    public static void main(String[] args) throws IOException {
        members();
        for (Class<?> inside : SawSums.class.getDeclaredClasses()) {
            inside(inside);
        }
        source();
        CHECK.finish();
    }

    private static String told(Method method) {
        StringBuilder text = new StringBuilder(method.getReturnType() + " " + method.getName() + "(");
        for (Class<?> type : method.getParameterTypes()) {
            text.append(text.charAt(text.length() - 1) == '(' ? "" : ",").append(type);
        }
        return text.append(")").toString();
    }

    private static void members() {
        CHECK.yes("public final", Modifier.isPublic(SawSums.class.getModifiers())
            && Modifier.isFinal(SawSums.class.getModifiers()));
        Set<String> found = new TreeSet<>();
        Set<String> names = new TreeSet<>();
        for (Method method : SawSums.class.getDeclaredMethods()) {
            if (Modifier.isPublic(method.getModifiers())) {
                found.add(told(method));
                names.add(method.getName());
                CHECK.no("static " + method, Modifier.isStatic(method.getModifiers()));
            } else {
                CHECK.yes("private " + method, Modifier.isPrivate(method.getModifiers()));
            }
        }
        CHECK.yes("the face is " + FACE + " and not " + found, found.equals(new TreeSet<>(FACE)));
        for (Method method : SawSums.class.getDeclaredMethods()) {
            CHECK.yes("no name twice: " + method, Modifier.isPublic(method.getModifiers())
                || !names.contains(method.getName()));
        }
        Constructor<?>[] made = SawSums.class.getDeclaredConstructors();
        CHECK.yes("one constructor", made.length == 1 && Modifier.isPublic(made[0].getModifiers())
            && made[0].getParameterCount() == 0);
        Set<String> constants = new TreeSet<>();
        for (Field field : SawSums.class.getDeclaredFields()) {
            if (Modifier.isPublic(field.getModifiers())) {
                constants.add(Modifier.toString(field.getModifiers()) + " " + field.getType() + " " + field.getName());
            } else {
                CHECK.yes("private " + field, Modifier.isPrivate(field.getModifiers()));
            }
        }
        CHECK.yes("constants " + constants, constants.equals(
            Set.of("public static final int NONE", "public static final long NO_NUMBER")));
        CHECK.due("NONE", -1, SawSums.NONE);
        CHECK.due("NO_NUMBER", -4000000000000000000L, SawSums.NO_NUMBER);
    }

    private static void inside(Class<?> inside) {
        CHECK.yes("private and static " + inside, Modifier.isStatic(inside.getModifiers())
            && Modifier.isPrivate(inside.getModifiers()));
        int fields = 0;
        for (Field field : inside.getDeclaredFields()) {
            CHECK.yes("static fields are final " + field, !Modifier.isStatic(field.getModifiers())
                || Modifier.isFinal(field.getModifiers()));
            fields += Modifier.isStatic(field.getModifiers()) ? 0 : 1;
        }
        CHECK.yes("at most 20 fields " + inside, fields <= 20);
        for (Method method : inside.getDeclaredMethods()) {
            CHECK.yes("at most 7 parameters " + method, method.getParameterCount() <= 7);
            CHECK.no("a name of the face " + method, FACE.stream().anyMatch(
                line -> line.contains(" " + method.getName() + "(")));
        }
    }

    private static void source() throws IOException {
        String source = Files.readString(Path.of(System.getenv().getOrDefault("SAWSUMS_SOURCE",
            "src/main/java/SawSums.java")));
        String code = source.replaceAll("(?s)/\\*.*?\\*/", "").replaceAll("//[^\n]*", "");
        for (String word : List.of("Exact\\(", "->", "::", "\\bsynchronized\\b", "\\bassert\\b", "\\bfinally\\b",
            "\\btry\\b", "\\bcatch\\b", "\\bwhile\\b", "\\bpackage\\b", "\\bprotected\\b", "System\\.(?!arraycopy)",
            "Random", "Thread", "\\bequals\\b", "\\bhashCode\\b", "\\btoString\\b", "\\bdouble\\b", "\\bfloat\\b",
            "BigInteger", "\\bvar\\b")) {
            CHECK.no(word + " stands in the code", Pattern.compile(word).matcher(code).find());
        }
        Matcher imports = Pattern.compile("import [^;]*;").matcher(code);
        while (imports.find()) {
            CHECK.yes(imports.group(), imports.group().equals("import java.util.NoSuchElementException;"));
        }
        CHECK.yes("signs of the file are 1 to 127", source.chars().allMatch(sign -> sign > 0 && sign < 128));
        methodsAreShort(code);
    }

    private static void methodsAreShort(String code) {
        String[] lines = code.split("\n");
        int start = -1;
        String indent = "";
        for (int i = 0; i < lines.length; i++) {
            if (start < 0 && lines[i].matches(" +[a-zA-Z].*\\).*\\{") && !lines[i].matches(" +(if|for|switch|else).*")) {
                start = i;
                indent = lines[i].replaceAll("[^ ].*", "");
            } else if (start >= 0 && lines[i].equals(indent + "}")) {
                CHECK.yes("short: " + lines[start].trim(), i - start < 60);
                start = -1;
            }
        }
        CHECK.yes("every method ends " + Arrays.asList(lines).size(), start < 0);
    }
}
