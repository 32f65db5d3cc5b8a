import java.io.IOException;
import java.lang.reflect.Constructor;
import java.lang.reflect.Field;
import java.lang.reflect.Method;
import java.lang.reflect.Modifier;
import java.nio.file.Files;
import java.nio.file.Path;
import java.util.Set;
import java.util.TreeSet;
import java.util.regex.Matcher;
import java.util.regex.Pattern;

/** The public face as the document shows it, and what LANGUAGE.md leaves out of the program's text. */
public final class FaceTest {
    private static final String ARGUMENT = " throws IllegalArgumentException";
    private static final String PLACE = " throws IndexOutOfBoundsException";
    private static final String BOTH = PLACE + ", IllegalArgumentException";
    private static final String[] FACE = {
        "int begin(int)" + ARGUMENT, "int set(int,int)" + ARGUMENT, "int value(int)" + ARGUMENT,
        "int teach(int,int,int)" + BOTH, "boolean breakSensor(boolean)", "int seed(int)" + ARGUMENT,
        "int fire(int,int,int)" + ARGUMENT, "int drive(int,int,int,int)" + ARGUMENT,
        "int firings()", "int next()", "int cylinder(int,int)" + BOTH, "int learned(int,int)" + PLACE,
        "int angle(int,int,int,boolean)" + BOTH, "int status(int)" + ARGUMENT, "int unfairness()",
        "int rateBits()", "double octane(int)" + PLACE, "int extreme(int,boolean,boolean)" + PLACE,
        "int events()", "int event(int,int)" + BOTH, "int eventsOf(int)" + ARGUMENT,
        "int limit(int,int,int,int)" + BOTH, "int quietAfter(int,int,int)" + ARGUMENT,
        "int lowestOctane(int,int,int)" + ARGUMENT,
        "int append(int)" + ARGUMENT + ", IllegalStateException", "int clearText()", "int replay()",
        "int undo() throws IllegalStateException", "long digest()"};
    private static final String[] LEFT_OUT = {
        "\\bpackage\\b",
        "\\bimport\\b(?!\\s+java\\.util\\.(ArrayList|List|Arrays|Iterator|NoSuchElementException)\\s*;)",
        "(?m)^(?!.*\\b(case|default)\\b).*->", "::",
        "\\bsynchronized\\b", "\\bassert\\b", "\\bfinally\\b", "\\bstatic\\s*\\{",
        "\\bcatch\\s*\\([^)]*\\b(Exception|Throwable|Error|ArrayIndexOutOfBoundsException|NullPointerException"
            + "|ClassCastException|NegativeArraySizeException|ArrayStoreException)\\b",
        "\\bObject\\b", "\\bFloat\\b", "\\bDouble\\b", "\\bThread\\b", "\\w+Exact\\b",
        "\\bSystem\\.(?!arraycopy\\b)", "\\bgetMessage\\b", "@(?!Override\\b)",
        "\\bboolean\\s+equals\\b", "\\bhashCode\\b", "\\bString\\s+toString\\b"};

    public static void main(String[] args) throws IOException {
        methods();
        members();
        program();
        Check.end();
    }

    private static void methods() {
        Set<String> seen = new TreeSet<>();
        Set<String> names = new TreeSet<>();
        for (Method method : KnockControl.class.getDeclaredMethods()) {
            if (Modifier.isPublic(method.getModifiers())) {
                seen.add(told(method));
                names.add(method.getName());
            } else {
                Check.due(method + " is private", true, Modifier.isPrivate(method.getModifiers()));
            }
        }
        Check.due("the face is " + seen, true, seen.equals(Set.of(FACE)));
        for (Method method : KnockControl.class.getDeclaredMethods()) {
            boolean open = Modifier.isPublic(method.getModifiers());
            Check.due(method + " has a name of its own", true, open || !names.contains(method.getName()));
        }
    }

    private static String told(Method method) {
        StringBuilder told = new StringBuilder();
        told.append(method.getReturnType().getSimpleName()).append(' ').append(method.getName()).append('(');
        for (Class<?> type : method.getParameterTypes()) {
            told.append(told.charAt(told.length() - 1) == '(' ? "" : ",").append(type.getSimpleName());
        }
        told.append(')');
        String between = " throws ";
        for (Class<?> type : method.getExceptionTypes()) {
            told.append(between).append(type.getSimpleName());
            between = ", ";
        }
        return told.toString();
    }

    private static void members() {
        int modifiers = KnockControl.class.getModifiers();
        Check.due("public and final", true, Modifier.isPublic(modifiers) && Modifier.isFinal(modifiers));
        Constructor<?>[] constructors = KnockControl.class.getDeclaredConstructors();
        Check.due("one constructor", 1, constructors.length);
        Check.due("without parameters", 0, constructors[0].getParameterCount());
        Check.due("a public one", true, Modifier.isPublic(constructors[0].getModifiers()));
        for (Field field : KnockControl.class.getDeclaredFields()) {
            boolean constant = field.getName().equals("NONE");
            Check.due(field + " is open", constant, Modifier.isPublic(field.getModifiers()));
            Check.due(field + " is private", !constant, Modifier.isPrivate(field.getModifiers()));
        }
        rooms(KnockControl.class);
        Class<?>[] inside = KnockControl.class.getDeclaredClasses();
        Check.due("at most 11 classes inside", true, inside.length <= 11);
        for (Class<?> one : inside) {
            rooms(one);
            Check.due(one + " is open", false, (one.getModifiers() & (Modifier.PUBLIC | Modifier.PROTECTED)) != 0);
            Check.due(one + " is static", true, Modifier.isStatic(one.getModifiers()));
        }
    }

    /** What LANGUAGE.md says of the fields and the parameters of each class. */
    private static void rooms(Class<?> one) {
        int own = 0;
        for (Field field : one.getDeclaredFields()) {
            if (Modifier.isStatic(field.getModifiers())) {
                Check.due(field + " is final", true, Modifier.isFinal(field.getModifiers()));
            } else {
                own++;
            }
        }
        Check.due(one + " has at most 20 fields", true, own <= 20);
        for (Method method : one.getDeclaredMethods()) {
            Check.due(method + " has at most 7 parameters", true, method.getParameterCount() <= 7);
        }
    }

    private static void program() throws IOException {
        String text = Files.readString(Path.of("src/main/java/KnockControl.java"));
        for (int i = 0; i < text.length(); i++) {
            Check.due("sign " + i + " of the program", true, text.charAt(i) <= 127);
        }
        String code = text.replaceAll("(?s)/\\*.*?\\*/", "").replaceAll("//[^\n]*", "");
        for (String one : LEFT_OUT) {
            Matcher matcher = Pattern.compile(one).matcher(code);
            Check.due("the program has " + one, false, matcher.find());
        }
    }
}
