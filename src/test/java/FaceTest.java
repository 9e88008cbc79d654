import java.io.IOException;
import java.lang.reflect.Constructor;
import java.lang.reflect.Executable;
import java.lang.reflect.Field;
import java.lang.reflect.Method;
import java.lang.reflect.Modifier;
import java.nio.file.Files;
import java.nio.file.Path;
import java.util.ArrayList;
import java.util.List;
import java.util.Set;
import java.util.TreeSet;
import java.util.regex.Matcher;
import java.util.regex.Pattern;
import java.util.stream.Stream;

/** The class has the document's face and no more, and keeps to the rules of LANGUAGE.md that can be seen from outside. */
public final class FaceTest {
    private static final Due DUE = new Due("FaceTest");

    private static final int CALLS = 25;
    private static final int MOST_PARAMETERS = 7;
    private static final int MOST_LINES = 60;
    private static final int MOST_CLASSES = 12;
    private static final int MOST_FIELDS = 20;

    private static final Pattern CALL_OF_THE_DOCUMENT = Pattern.compile("(?m)^ {4}public int (\\w+)\\(([^)]*)\\);$");

    private static final String[] RULED_OUT = {
        "\\b(throw|throws|try|catch|synchronized|assert|import|package)\\b", "->", "::", "Exact\\b", "Exception",
        "\\bSystem\\.(?!arraycopy)", "\\b(native|volatile|Object|Math\\.random)\\b", "\\bstatic\\s*\\{",
        "\\b(equals|hashCode|toString|getClass|finalize)\\b", "[^\\x00-\\x7f]"
    };

    private static void yes(String what, boolean holds) {
        DUE.is(what, 1, holds ? 1 : 0);
    }

    private static String signature(Method method) {
        List<String> types = new ArrayList<>();
        for (Class<?> type : method.getParameterTypes()) {
            types.add(type.getName());
        }
        return method.getName() + types;
    }

    private static Set<String> faceOfTheDocument() throws IOException {
        Set<String> face = new TreeSet<>();
        Matcher call = CALL_OF_THE_DOCUMENT.matcher(Files.readString(Path.of("../shared/DOC.md")));
        while (call.find()) {
            List<String> types = new ArrayList<>();
            for (String parameter : call.group(2).split(",")) {
                if (!parameter.isBlank()) {
                    types.add(parameter.trim().split(" ")[0]);
                }
            }
            face.add(call.group(1) + types);
        }
        DUE.is("calls of the document", CALLS, face.size());
        return face;
    }

    private static void callsAreTheDocuments() throws IOException {
        Set<String> face = faceOfTheDocument();
        Set<String> names = new TreeSet<>();
        for (String signature : face) {
            names.add(signature.substring(0, signature.indexOf('[')));
        }
        Set<String> seen = new TreeSet<>();
        for (Method method : TankSidings.class.getDeclaredMethods()) {
            if (Modifier.isPublic(method.getModifiers())) {
                seen.add(signature(method));
                yes(method + " answers an int of an object",
                    method.getReturnType() == int.class && !Modifier.isStatic(method.getModifiers()));
            } else {
                yes(method + " is private", Modifier.isPrivate(method.getModifiers()));
                yes(method + " bears no public name", !names.contains(method.getName()));
            }
        }
        DUE.same("public methods", face.toString(), seen.toString());
    }

    private static void restOfTheFaceIsTheDocuments() throws ReflectiveOperationException {
        yes("public and final", Modifier.isPublic(TankSidings.class.getModifiers())
            && Modifier.isFinal(TankSidings.class.getModifiers()));
        yes("of no other class", TankSidings.class.getSuperclass() == Object.class
            && TankSidings.class.getInterfaces().length == 0);
        Constructor<?>[] constructors = TankSidings.class.getDeclaredConstructors();
        yes("one constructor", constructors.length == 1 && constructors[0].getParameterCount() == 0
            && Modifier.isPublic(constructors[0].getModifiers()));
        Field outside = TankSidings.class.getField("OUTSIDE");
        yes("OUTSIDE is a constant of int", outside.getType() == int.class && Modifier.isStatic(outside.getModifiers())
            && Modifier.isFinal(outside.getModifiers()));
        DUE.is("OUTSIDE", Due.OUTSIDE, outside.getInt(null));
        for (Field field : TankSidings.class.getDeclaredFields()) {
            yes(field + " is private", field.equals(outside) || Modifier.isPrivate(field.getModifiers()));
        }
    }

    private static void classesInsideAreStatic() {
        Class<?>[] inside = TankSidings.class.getDeclaredClasses();
        yes("up to 12 classes", inside.length + 1 <= MOST_CLASSES);
        keepsToTheLimits(TankSidings.class);
        for (Class<?> own : inside) {
            yes(own + " is static and not public", Modifier.isStatic(own.getModifiers())
                && !Modifier.isPublic(own.getModifiers()) && !Modifier.isProtected(own.getModifiers()));
            yes(own + " has no class inside", own.getDeclaredClasses().length == 0);
            keepsToTheLimits(own);
        }
    }

    private static void keepsToTheLimits(Class<?> own) {
        int fields = 0;
        for (Field field : own.getDeclaredFields()) {
            if (Modifier.isStatic(field.getModifiers())) {
                yes(field + " is final", Modifier.isFinal(field.getModifiers()));
            } else {
                fields++;
            }
        }
        yes(own + " has up to 20 fields", fields <= MOST_FIELDS);
        Stream<Executable> methods = Stream.concat(Stream.of(own.getDeclaredMethods()), Stream.of(own.getDeclaredConstructors()));
        methods.forEach(method -> yes(method + " takes up to 7", method.getParameterCount() <= MOST_PARAMETERS));
    }

    private static void textKeepsToTheLanguage(String text) {
        String code = text.replaceAll("(?s)/\\*.*?\\*/", "").replaceAll("//[^\n]*", "");
        for (String words : RULED_OUT) {
            yes("no " + words + " in the code", !Pattern.compile(words).matcher(code).find());
        }
        Matcher outermost = Pattern.compile("(?m)^(\\w+ )*(class|interface|enum|record) ").matcher(code);
        DUE.is("classes that are not inside another", 1, (int) outermost.results().count());
    }

    /** A method begins at a line that ends with '{' and ends at the brace that stands as far in as that line. */
    private static void methodsAreShort(String text) {
        Matcher method = Pattern.compile("(?ms)^( {4}| {8})(?! )[^\n]*\\([^\n]*\\) \\{$.*?^\\1\\}$").matcher(text);
        int methods = 0;
        while (method.find()) {
            methods++;
            String whole = method.group();
            yes(whole.lines().findFirst().orElse("") + " is short", whole.lines().count() <= MOST_LINES);
        }
        yes("methods are seen", methods > CALLS);
    }

    public static void main(String[] args) throws IOException, ReflectiveOperationException {
        String text = Files.readString(Path.of("src/main/java/TankSidings.java"));
        callsAreTheDocuments();
        restOfTheFaceIsTheDocuments();
        classesInsideAreStatic();
        textKeepsToTheLanguage(text);
        methodsAreShort(text);
        DUE.end();
    }
}
