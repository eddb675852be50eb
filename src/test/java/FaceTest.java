import java.lang.reflect.Constructor;
import java.lang.reflect.Field;
import java.lang.reflect.Method;
import java.lang.reflect.Modifier;
import java.nio.charset.StandardCharsets;
import java.nio.file.Files;
import java.nio.file.Path;
import java.util.ArrayList;
import java.util.List;
import java.util.Set;
import java.util.TreeSet;
import java.util.regex.Matcher;
import java.util.regex.Pattern;

/** The public face is that of ../shared/DOC.md, and no other member can be seen from outside. */
public final class FaceTest {
    private static int wrong = 0;

    public static void main(String[] args) throws Exception {
        String document = Files.readString(Path.of("..", "shared", "DOC.md"), StandardCharsets.UTF_8);
        Set<String> promised = promised(document);
        Set<String> headed = headed(document);
        Set<String> built = built();
        tell(promised, built, "is in the public face, but not built");
        tell(headed, built, "is promised, but not built");
        tell(built, promised, "is built, but not in the public face");
        tell(built, headed, "is built, but not promised");
        if (promised.size() != 54 || headed.size() != 54) {
            note("of 54 signatures " + promised.size() + " were found in the public face, " + headed.size() + " at the promises");
        }
        if (!Modifier.isPublic(Datesolo.class.getModifiers()) || !Modifier.isFinal(Datesolo.class.getModifiers())) {
            note("the class is not public and final");
        }
        privateNames();
        fields();
        noOthersThatArePublic();
        System.out.println(promised.size() + " signatures, " + wrong + " wrong");
        if (wrong != 0) {
            System.exit(1);
        }
    }

    /** The signatures of the public face. */
    private static Set<String> promised(String document) {
        String block = document.substring(document.indexOf("```java"), document.indexOf("```", document.indexOf("```java") + 3));
        return signatures(block, "public (?!final class)((?:\\w+ )?\\w+)\\(([^)]*)\\)(?: throws ([^;]*))?;");
    }

    /** The signatures that stand behind the headings of the promises. */
    private static Set<String> headed(String document) {
        return signatures(document, "## Promise \\d+: .*\n\n`((?:\\w+ )?\\w+)\\(([^)]*)\\)(?: throws ([^`]*))?`\n");
    }

    private static Set<String> signatures(String text, String pattern) {
        Set<String> signatures = new TreeSet<>();
        Matcher matcher = Pattern.compile(pattern).matcher(text);
        while (matcher.find()) {
            String types = matcher.group(2).replaceAll("(\\w+) \\w+", "$1").replace(" ", "");
            String thrown = matcher.group(3) == null ? "" : matcher.group(3).replace(" ", "");
            signatures.add(matcher.group(1) + "(" + types + ")" + thrown);
        }
        return signatures;
    }

    private static Set<String> built() {
        Set<String> signatures = new TreeSet<>();
        for (Constructor<?> constructor : Datesolo.class.getDeclaredConstructors()) {
            signatures.add("Datesolo(" + names(constructor.getParameterTypes()) + ")" + names(constructor.getExceptionTypes()));
        }
        for (Method method : Datesolo.class.getDeclaredMethods()) {
            if (!Modifier.isPrivate(method.getModifiers())) {
                signatures.add(method.getReturnType().getSimpleName() + " " + method.getName()
                    + "(" + names(method.getParameterTypes()) + ")" + names(method.getExceptionTypes()));
            }
        }
        return signatures;
    }

    private static String names(Class<?>[] types) {
        List<String> names = new ArrayList<>();
        for (Class<?> type : types) {
            names.add(type.getSimpleName());
        }
        return String.join(",", names);
    }

    private static void tell(Set<String> these, Set<String> those, String what) {
        for (String signature : these) {
            if (!those.contains(signature)) {
                note(signature + " " + what);
            }
        }
    }

    private static void privateNames() {
        Set<String> seen = new TreeSet<>();
        for (Method method : Datesolo.class.getDeclaredMethods()) {
            if (Modifier.isPublic(method.getModifiers())) {
                seen.add(method.getName());
            }
        }
        for (Method method : Datesolo.class.getDeclaredMethods()) {
            if (Modifier.isPrivate(method.getModifiers()) && seen.contains(method.getName())) {
                note("the private method " + method.getName() + " bears the name of a public one");
            }
        }
    }

    private static void fields() {
        for (Field field : Datesolo.class.getDeclaredFields()) {
            if (!Modifier.isPrivate(field.getModifiers())) {
                note("the field " + field.getName() + " is not private");
            }
            if (Modifier.isStatic(field.getModifiers()) && !Modifier.isFinal(field.getModifiers())) {
                note("the static field " + field.getName() + " is not final");
            }
        }
    }

    private static void noOthersThatArePublic() {
        if (Datesolo.class.getSuperclass() != Object.class || Datesolo.class.getInterfaces().length != 0) {
            note("the class has members of another one");
        }
        for (Class<?> inside : Datesolo.class.getDeclaredClasses()) {
            if (Modifier.isPublic(inside.getModifiers()) || Modifier.isProtected(inside.getModifiers())
                || !Modifier.isStatic(inside.getModifiers())) {
                note("the class inside it " + inside.getSimpleName() + " is public or protected, or not static");
            }
        }
        for (Method method : Datesolo.class.getDeclaredMethods()) {
            if (Modifier.isPublic(method.getModifiers()) && Modifier.isStatic(method.getModifiers())) {
                note("the method " + method.getName() + " is static");
            }
        }
    }

    private static void note(String what) {
        wrong++;
        System.out.println(what);
    }
}
