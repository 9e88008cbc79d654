import java.io.IOException;
import java.lang.reflect.Constructor;
import java.lang.reflect.Field;
import java.lang.reflect.Method;
import java.lang.reflect.Modifier;
import java.nio.file.Files;
import java.nio.file.Path;
import java.util.Set;
import java.util.TreeSet;
import java.util.regex.Pattern;

/** The class has the document's face and no more, and its text has no word that LANGUAGE.md rules out. */
public final class FaceTest {
    private static final Due DUE = new Due("FaceTest");

    private static final Set<String> FACE = Set.of(
        "place(int,int,int)", "take(int)", "shunt(int,int,int)", "couple(int,int)", "crates(int,int,int)",
        "load(int,int,int,int)", "crate(int,int,int)", "length(int,int)", "weigh(int,int)", "defect(int,int,int)",
        "report(int,int)", "draw(int)", "level()", "siding(int,boolean)", "room()", "stow(int,int)",
        "fetch(int,int)", "plan(int,int)", "note(int,int,int)", "noted(int,int)", "wide(int)", "away(int)",
        "about(int,int,int)", "count(int)", "reasons(int)");

    private static final String[] RULED_OUT = {
        "\\b(throw|throws|try|catch|synchronized|assert|import|package)\\b", "->", "::", "Exact\\b",
        "\\bSystem\\.(?!arraycopy)", "\\b(native|volatile|Object|Math\\.random)\\b"
    };

    private static String signature(Method method) {
        StringBuilder text = new StringBuilder(method.getName()).append('(');
        for (Class<?> type : method.getParameterTypes()) {
            text.append(text.charAt(text.length() - 1) == '(' ? "" : ",").append(type.getName());
        }
        return text.append(')').toString();
    }

    private static void yes(String what, boolean holds) {
        DUE.is(what, 1, holds ? 1 : 0);
    }

    private static void membersAreTheDocuments() {
        Set<String> seen = new TreeSet<>();
        Set<String> names = new TreeSet<>();
        for (String signature : FACE) {
            names.add(signature.substring(0, signature.indexOf('(')));
        }
        for (Method method : TankSidings.class.getDeclaredMethods()) {
            if (Modifier.isPublic(method.getModifiers())) {
                seen.add(signature(method));
                yes(method + " answers an int of an object",
                    method.getReturnType() == int.class && !Modifier.isStatic(method.getModifiers()));
            } else {
                yes(method + " is private", Modifier.isPrivate(method.getModifiers()));
                yes(method + " bears no public name", !names.contains(method.getName()));
            }
        }
        yes("public methods " + seen, seen.equals(FACE));
    }

    private static void restOfTheFace() throws ReflectiveOperationException {
        yes("public and final", Modifier.isPublic(TankSidings.class.getModifiers())
            && Modifier.isFinal(TankSidings.class.getModifiers()));
        Constructor<?>[] constructors = TankSidings.class.getDeclaredConstructors();
        yes("one constructor", constructors.length == 1 && constructors[0].getParameterCount() == 0
            && Modifier.isPublic(constructors[0].getModifiers()));
        Field outside = TankSidings.class.getField("OUTSIDE");
        DUE.is("OUTSIDE", Due.OUTSIDE, outside.getInt(null));
        for (Field field : TankSidings.class.getDeclaredFields()) {
            yes(field + " is private", field.equals(outside) || Modifier.isPrivate(field.getModifiers()));
            yes(field + " is final if static",
                !Modifier.isStatic(field.getModifiers()) || Modifier.isFinal(field.getModifiers()));
        }
        for (Class<?> inside : TankSidings.class.getDeclaredClasses()) {
            yes(inside + " is static and not public", Modifier.isStatic(inside.getModifiers())
                && !Modifier.isPublic(inside.getModifiers()) && !Modifier.isProtected(inside.getModifiers()));
            yes(inside + " has up to 20 fields", inside.getDeclaredFields().length <= 20);
        }
    }

    private static void textKeepsToTheLanguage() throws IOException {
        String text = Files.readString(Path.of("src/main/java/TankSidings.java"));
        String code = text.replaceAll("(?s)/\\*.*?\\*/", "").replaceAll("//[^\n]*", "");
        for (String words : RULED_OUT) {
            yes("no " + words + " in the code", !Pattern.compile(words).matcher(code).find());
        }
    }

    public static void main(String[] args) throws IOException, ReflectiveOperationException {
        membersAreTheDocuments();
        restOfTheFace();
        textKeepsToTheLanguage();
        DUE.end();
    }
}
