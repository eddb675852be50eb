import java.lang.reflect.Constructor;
import java.lang.reflect.Field;
import java.lang.reflect.Method;
import java.lang.reflect.Modifier;
import java.nio.charset.StandardCharsets;
import java.nio.file.Files;
import java.nio.file.Path;
import java.util.ArrayList;
import java.util.List;
import java.util.Set;
import java.util.TreeSet;
import java.util.regex.Matcher;
import java.util.regex.Pattern;

/** The public face is that of ../shared/DOC.md, and no other member can be seen from outside. */
public final class FaceTest {
    private static int wrong = 0;

    public static void main(String[] args) throws Exception {
        Set<String> promised = promised();
        Set<String> built = built();
        tell(promised, built, "is promised, but not built");
        tell(built, promised, "is built, but not promised");
        if (promised.size() != 54) {
            note("of 54 signatures " + promised.size() + " were found");
        }
        if (!Modifier.isPublic(Datesolo.class.getModifiers()) || !Modifier.isFinal(Datesolo.class.getModifiers())) {
            note("the class is not public and final");
        }
        privateNames();
        fields();
        System.out.println(promised.size() + " signatures, " + wrong + " wrong");
        if (wrong != 0) {
            System.exit(1);
        }
    }

    private static Set<String> promised() throws Exception {
        String document = Files.readString(Path.of("..", "shared", "DOC.md"), StandardCharsets.UTF_8);
        String block = document.substring(document.indexOf("```java"), document.indexOf("```", document.indexOf("```java") + 3));
        Set<String> signatures = new TreeSet<>();
        Matcher matcher = Pattern.compile("public (?!final class)((?:\\w+ )?\\w+)\\(([^)]*)\\)(?: throws ([^;]*))?;").matcher(block);
        while (matcher.find()) {
            String types = matcher.group(2).replaceAll("(\\w+) \\w+", "$1").replace(" ", "");
            String thrown = matcher.group(3) == null ? "" : matcher.group(3).replace(" ", "");
            signatures.add(matcher.group(1) + "(" + types + ")" + thrown);
        }
        return signatures;
    }

    private static Set<String> built() {
        Set<String> signatures = new TreeSet<>();
        for (Constructor<?> constructor : Datesolo.class.getDeclaredConstructors()) {
            signatures.add("Datesolo(" + names(constructor.getParameterTypes()) + ")" + names(constructor.getExceptionTypes()));
        }
        for (Method method : Datesolo.class.getDeclaredMethods()) {
            if (!Modifier.isPrivate(method.getModifiers())) {
                signatures.add(method.getReturnType().getSimpleName() + " " + method.getName()
                    + "(" + names(method.getParameterTypes()) + ")" + names(method.getExceptionTypes()));
            }
        }
        return signatures;
    }

    private static String names(Class<?>[] types) {
        List<String> names = new ArrayList<>();
        for (Class<?> type : types) {
            names.add(type.getSimpleName());
        }
        return String.join(",", names);
    }

    private static void tell(Set<String> these, Set<String> those, String what) {
        for (String signature : these) {
            if (!those.contains(signature)) {
                note(signature + " " + what);
            }
        }
    }

    private static void privateNames() {
        Set<String> seen = new TreeSet<>();
        for (Method method : Datesolo.class.getDeclaredMethods()) {
            if (Modifier.isPublic(method.getModifiers())) {
                seen.add(method.getName());
            }
        }
        for (Method method : Datesolo.class.getDeclaredMethods()) {
            if (Modifier.isPrivate(method.getModifiers()) && seen.contains(method.getName())) {
                note("the private method " + method.getName() + " bears the name of a public one");
            }
        }
    }

    private static void fields() {
        for (Field field : Datesolo.class.getDeclaredFields()) {
            if (!Modifier.isPrivate(field.getModifiers())) {
                note("the field " + field.getName() + " is not private");
            }
            if (Modifier.isStatic(field.getModifiers()) && !Modifier.isFinal(field.getModifiers())) {
                note("the static field " + field.getName() + " is not final");
            }
        }
    }

    private static void note(String what) {
        wrong++;
        System.out.println(what);
    }
}
