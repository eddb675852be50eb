import java.io.ByteArrayOutputStream;
import java.io.IOException;
import java.io.OutputStream;
import java.net.URI;
import java.nio.charset.StandardCharsets;
import java.nio.file.Files;
import java.nio.file.Path;
import java.util.ArrayList;
import java.util.HashMap;
import java.util.List;
import java.util.Map;
import javax.tools.FileObject;
import javax.tools.ForwardingJavaFileManager;
import javax.tools.JavaCompiler;
import javax.tools.JavaFileManager;
import javax.tools.JavaFileObject;
import javax.tools.SimpleJavaFileObject;
import javax.tools.ToolProvider;

/** Classes that are compiled from texts, and held apart from those of the same names that the tests have. */
final class Compiled extends ClassLoader {
    private final Map<String, ByteArrayOutputStream> compiled = new HashMap<>();

    /** Each text is that of a public class of this name, without a package. */
    Compiled(Map<String, String> texts) {
        JavaCompiler compiler = ToolProvider.getSystemJavaCompiler();
        List<JavaFileObject> sources = new ArrayList<>();
        texts.forEach((name, text) -> sources.add(source(name, text)));
        JavaFileManager kept = new Kept(compiler.getStandardFileManager(null, null, StandardCharsets.UTF_8));
        if (!compiler.getTask(null, kept, null, List.of("--release", "17"), null, sources).call()) {
            throw new IllegalArgumentException("a text of a test does not compile: " + texts.keySet());
        }
    }

    static String program() throws IOException {
        return Files.readString(Path.of("src", "main", "java", "Datesolo.java"), StandardCharsets.UTF_8);
    }

    static JavaFileObject source(String name, String text) {
        return new SimpleJavaFileObject(URI.create("text:///" + name + ".java"), JavaFileObject.Kind.SOURCE) {
            @Override
            public CharSequence getCharContent(boolean ignoreEncodingErrors) {
                return text;
            }
        };
    }

    /** A class of the texts is taken ahead of one that the tests have under the same name. */
    @Override
    protected Class<?> loadClass(String name, boolean resolve) throws ClassNotFoundException {
        if (!compiled.containsKey(name)) {
            return super.loadClass(name, resolve);
        }
        Class<?> before = findLoadedClass(name);
        if (before != null) {
            return before;
        }
        byte[] code = compiled.get(name).toByteArray();
        return defineClass(name, code, 0, code.length);
    }

    private final class Kept extends ForwardingJavaFileManager<JavaFileManager> {
        Kept(JavaFileManager manager) {
            super(manager);
        }

        @Override
        public JavaFileObject getJavaFileForOutput(Location location, String name, JavaFileObject.Kind kind, FileObject sibling) {
            return new SimpleJavaFileObject(URI.create("code:///" + name + ".class"), kind) {
                @Override
                public OutputStream openOutputStream() {
                    ByteArrayOutputStream code = new ByteArrayOutputStream();
                    compiled.put(name, code);
                    return code;
                }
            };
        }
    }
}
