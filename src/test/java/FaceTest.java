import java.io.IOException;
import java.lang.reflect.Constructor;
import java.lang.reflect.Field;
import java.lang.reflect.Method;
import java.lang.reflect.Modifier;
import java.nio.file.Files;
import java.nio.file.Path;
import java.util.Arrays;
import java.util.List;
import java.util.Set;
import java.util.TreeSet;
import java.util.regex.Matcher;
import java.util.regex.Pattern;
import java.util.stream.Collectors;

/** The document's public face and nothing beside it, and those rules of LANGUAGE.md that a text can be looked through for. */
public final class FaceTest {
    static int wrong = 0;

    static final String FACE = "state(int) person(int) cloth(int) thing(int,int) !set(int,int,int) !act(int,int,int) days(int) feed(int,int,int,int,int) "
        + "!end(int) text(int) fault(int) of(int,int) clothOf(int,int) thingOf(int,int) book(int,int) goes(int,int) fate(int) crossing(int) braid(int) "
        + "turnings(int,int) strip(int,int,int) answer(int) boxes(int) piles(int,int) dealt(int) key(int) table(int,int,int) ask(int) pages(int,int) "
        + "truth(int,int) rounds(int,int,int) meets(int,int,int) rows(int,int) digit(int) spelt(int,int) game(int,int) !undo() !image(boolean) look(int)";

    static void want(boolean isSo, String what) {
        if (!isSo) {
            wrong++;
            System.out.println("not so: " + what);
        }
    }

    static String told(Method m) {
        String answer = m.getReturnType() == boolean.class ? "!" : m.getReturnType() == int.class ? "" : "?";
        return answer + m.getName() + Arrays.stream(m.getParameterTypes()).map(Class::getSimpleName).collect(Collectors.joining(",", "(", ")"));
    }

    static void face() {
        Class<?> c = KnotLaundry.class;
        want(Modifier.isPublic(c.getModifiers()) && Modifier.isFinal(c.getModifiers()), "public final class");
        Set<String> found = new TreeSet<>();
        Set<String> names = new TreeSet<>();
        for (Method m : c.getDeclaredMethods()) {
            if (Modifier.isPrivate(m.getModifiers())) continue;
            want(Modifier.isPublic(m.getModifiers()) && !Modifier.isStatic(m.getModifiers()), m + " is public");
            found.add(told(m));
            names.add(m.getName());
        }
        want(found.equals(new TreeSet<>(List.of(FACE.split(" ")))), "the methods of the face, found " + found);
        Constructor<?>[] made = c.getDeclaredConstructors();
        want(made.length == 1 && made[0].getParameterCount() == 0 && Modifier.isPublic(made[0].getModifiers()), "one public constructor");
        for (Field f : c.getDeclaredFields()) {
            want(Modifier.isPrivate(f.getModifiers()) || f.getName().equals("NONE"), f + " is private");
        }
        want(KnotLaundry.NONE == -1, "NONE is -1");
        for (Class<?> inside : c.getDeclaredClasses()) {
            want(Modifier.isStatic(inside.getModifiers()), inside + " is static");
            want(inside.getDeclaredFields().length < 50, inside + " has few fields");
            for (Method m : inside.getDeclaredMethods()) want(!names.contains(m.getName()), m + " does not bear a public name");
        }
        for (Method m : c.getDeclaredMethods()) want(!Modifier.isPrivate(m.getModifiers()) || !names.contains(m.getName()), m + " does not bear a public name");
        want(c.getDeclaredClasses().length <= 11, "some twelve classes");
    }

    static void never(String source, String pattern) {
        Matcher m = Pattern.compile(pattern).matcher(source);
        want(!m.find(), "never " + pattern);
    }

    static void language() throws IOException {
        String all = Files.readString(Path.of("src/main/java/KnotLaundry.java"));
        String source = all.replaceAll("(?s)/\\*.*?\\*/", "").replaceAll("//[^\\n]*", "");
        String code = source.replaceAll("\"[^\"]*\"", "\"\"").replaceAll("'.'", "' '");
        want(all.chars().allMatch(ch -> ch == '\n' || ch >= 32 && ch < 127), "plain signs alone");
        for (String word : List.of("throw", "throws", "try", "catch", "finally", "synchronized", "assert", "package", "lambda", "yield", "var")) never(code, "\\b" + word + "\\b");
        for (String sign : List.of("->", "::", "@", "\"\\s*\\+", "\\+\\s*\"", "String\\s*\\[", "Exact", "static\\s*\\{", "hashCode", "NaN", "toString")) never(code, sign);
        Matcher imports = Pattern.compile("import ([^;]*);").matcher(code);
        while (imports.find()) want(Set.of("java.util.Arrays", "java.util.ArrayList", "java.util.List", "java.util.Iterator").contains(imports.group(1)), imports.group());
        Matcher statics = Pattern.compile("(?m)^\\s*(private )?static (?!final)[^(=]*[=;]").matcher(code);
        want(!statics.find(), "static fields are final");
        Matcher methods = Pattern.compile("(?m)^( {4}| {8})[a-z][^=;\\n]*\\(([^)]*)\\) \\{\\n((?:.*\\n)*?)\\1\\}").matcher(code);
        int count = 0;
        while (methods.find()) {
            count++;
            want(methods.group(2).split(",").length <= 7, "at most seven parameters: " + methods.group().lines().findFirst().orElse(""));
            want(methods.group(3).lines().count() <= 60, "some sixty lines: " + methods.group().lines().findFirst().orElse(""));
        }
        want(count > 100, "the methods were found: " + count);
    }

    public static void main(String[] args) throws IOException {
        face();
        language();
        System.out.println("FaceTest" + (wrong == 0 ? ": all is so" : ": " + wrong + " wrong"));
        if (wrong != 0) System.exit(1);
    }
}
