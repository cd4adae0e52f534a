import java.io.IOException;
import java.lang.reflect.Constructor;
import java.lang.reflect.Field;
import java.lang.reflect.Method;
import java.lang.reflect.Modifier;
import java.nio.file.Files;
import java.nio.file.Path;
import java.util.Arrays;
import java.util.TreeSet;
import java.util.regex.Matcher;
import java.util.regex.Pattern;

/** The public face: just the document's constructor and methods, with its throws clauses. */
public final class FaceTest {
    private static final Path DOCUMENT = Path.of("../shared/DOC.md");
    private static final Pattern DECLARED =
            Pattern.compile("(?m)^    public (\\w+ \\w+)\\(([^)]*)\\)(?: throws ([^;]*))?;$");
    private static final String[] FACE = {
        "int mount(int) IllegalArgumentException UnsupportedOperationException",
        "int step(int,int,long) IndexOutOfBoundsException IllegalArgumentException IllegalStateException",
        "int follow(int,int,int) IndexOutOfBoundsException IllegalArgumentException IllegalStateException",
        "long read(int,long) IndexOutOfBoundsException IllegalArgumentException",
        "long reading(int,int) IndexOutOfBoundsException NoSuchElementException",
        "long tell(int,int) IndexOutOfBoundsException IllegalArgumentException NoSuchElementException",
        "int whole(int) IndexOutOfBoundsException NoSuchElementException",
        "boolean limits(int,long,long) IndexOutOfBoundsException IllegalArgumentException",
        "long widest(int) IllegalArgumentException NoSuchElementException",
        "int forget(int) IndexOutOfBoundsException",
        "int alarms(int) IndexOutOfBoundsException",
        "int count(int)",
    };

    public static void main(String[] args) throws IOException {
        Check check = new Check();
        Class<?> face = WeatherMast.class;
        check.due("the class is public and final", Modifier.PUBLIC | Modifier.FINAL, face.getModifiers());
        TreeSet<String> shown = new TreeSet<>();
        TreeSet<String> publicNames = new TreeSet<>();
        for (Method method : face.getDeclaredMethods()) {
            if (!Modifier.isPrivate(method.getModifiers())) {
                shown.add(told(method));
                publicNames.add(method.getName());
                check.due(method + " is public alone", Modifier.PUBLIC, method.getModifiers());
            }
        }
        TreeSet<String> due = new TreeSet<>(Arrays.asList(FACE));
        check.due("methods " + shown + " are " + due, true, due.equals(shown));
        for (Method method : face.getDeclaredMethods()) {
            if (Modifier.isPrivate(method.getModifiers())) {
                check.due(method + " has a public name", false, publicNames.contains(method.getName()));
            }
        }
        if (Files.isReadable(DOCUMENT)) {
            TreeSet<String> declared = declared(Files.readString(DOCUMENT));
            check.due("methods of the document " + declared + " are " + due, true, due.equals(declared));
        }
        Constructor<?>[] constructors = face.getDeclaredConstructors();
        check.due("constructors", 1, constructors.length);
        check.due("the constructor is public", Modifier.PUBLIC, constructors[0].getModifiers());
        check.due("the constructor's parameters", 0, constructors[0].getParameterCount());
        for (Field field : face.getDeclaredFields()) {
            check.due(field + " is private", true, Modifier.isPrivate(field.getModifiers()));
        }
        for (Class<?> inside : face.getDeclaredClasses()) {
            check.due(inside + " is static", true, Modifier.isStatic(inside.getModifiers()));
            check.due(inside + " is public", false, Modifier.isPublic(inside.getModifiers()));
        }
        check.end();
    }

    /** The document's methods, in the form that FACE has. */
    private static TreeSet<String> declared(String document) {
        TreeSet<String> found = new TreeSet<>();
        Matcher method = DECLARED.matcher(document);
        while (method.find()) {
            String types = method.group(2).replaceAll(" \\w+(,|$)", "$1").replace(" ", "");
            String thrown = method.group(3) == null ? "" : " " + method.group(3).replace(",", "");
            found.add(method.group(1) + "(" + types + ")" + thrown);
        }
        return found;
    }

    private static String told(Method method) {
        StringBuilder text = new StringBuilder();
        text.append(method.getReturnType().getSimpleName()).append(' ').append(method.getName()).append('(');
        String comma = "";
        for (Class<?> parameter : method.getParameterTypes()) {
            text.append(comma).append(parameter.getSimpleName());
            comma = ",";
        }
        text.append(')');
        for (Class<?> thrown : method.getExceptionTypes()) {
            text.append(' ').append(thrown.getSimpleName());
        }
        return text.toString();
    }
}
