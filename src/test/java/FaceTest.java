import java.io.IOException;
import java.lang.reflect.Constructor;
import java.lang.reflect.Field;
import java.lang.reflect.Method;
import java.lang.reflect.Modifier;
import java.nio.file.Files;
import java.nio.file.Path;
import java.util.Set;
import java.util.TreeSet;
import java.util.regex.Matcher;
import java.util.regex.Pattern;

/** The public face of the document, and those rules of LANGUAGE.md that can be seen from the class and its text. */
public final class FaceTest {
    private static final String SOURCE = "src/main/java/DispenseCabinet.java";
    private static final String[] METHODS = {
        "user(int,int,int)", "item(int,boolean,int)", "login(int,int)", "logout()", "witness(int,int)", "tick(int)",
        "order(int,int,int,int)", "cancel(int)", "begin(int,int)", "count(int)", "amount(int,int,int)", "shut()",
        "giveBack(int,int)", "reconcile()", "mismatch(int)", "bin(int,int)", "lot(int,int,boolean)", "stock(int,int)",
        "wanted(int)", "orderTold(int,int)", "alarms()", "told(int)", "entry(int,int)", "lose(int)", "repair()", "audit()"
    };
    private static final String[] CONSTANTS = {
        "BAD", "NOBODY", "ROLE", "STEP", "WITNESS", "ORDER", "SHORT", "FULL", "WRONG", "LOCKED"
    };
    private static final String[] RULED_OUT = {
        "throw", "throws", "try", "catch", "synchronized", "assert", "import", "package", "Thread", "Random",
        "currentTimeMillis", "nanoTime", "getenv", "hashCode", "toString", "->", "::"
    };
    private static final Check CHECK = new Check();

    public static void main(String[] args) throws Exception {
        constants();
        members();
        nested();
        text();
        CHECK.end();
    }

    private static void constants() throws Exception {
        for (int i = 0; i < CONSTANTS.length; i++) {
            Field field = DispenseCabinet.class.getField(CONSTANTS[i]);
            CHECK.due(CONSTANTS[i], field.getInt(null), -1 - i);
            CHECK.holds(CONSTANTS[i] + " is final", Modifier.isFinal(field.getModifiers()));
        }
        CHECK.due("public fields", DispenseCabinet.class.getFields().length, CONSTANTS.length);
    }

    private static void members() {
        Class<?> face = DispenseCabinet.class;
        CHECK.holds("public and final", Modifier.isPublic(face.getModifiers()) && Modifier.isFinal(face.getModifiers()));
        Constructor<?>[] constructors = face.getDeclaredConstructors();
        CHECK.due("constructors", constructors.length, 1);
        CHECK.due("its parameters", constructors[0].getParameterCount(), 0);
        CHECK.holds("it is public", Modifier.isPublic(constructors[0].getModifiers()));
        Set<String> due = new TreeSet<>(Set.of(METHODS));
        Set<String> names = new TreeSet<>();
        for (String method : METHODS) {
            names.add(method.substring(0, method.indexOf('(')));
        }
        for (Method method : face.getDeclaredMethods()) {
            if (Modifier.isPublic(method.getModifiers())) {
                CHECK.holds(method + " is of the face", due.remove(signature(method)) && method.getReturnType() == int.class);
            } else {
                CHECK.holds(method + " is private", Modifier.isPrivate(method.getModifiers()));
                CHECK.holds(method + " has a name of its own", !names.contains(method.getName()));
            }
        }
        CHECK.holds("missing: " + due, due.isEmpty());
        for (Field field : face.getDeclaredFields()) {
            boolean isOfFace = Set.of(CONSTANTS).contains(field.getName());
            CHECK.holds(field + " is private", isOfFace || Modifier.isPrivate(field.getModifiers()));
        }
    }

    private static void nested() {
        Class<?>[] classes = DispenseCabinet.class.getDeclaredClasses();
        CHECK.holds("some twelve classes", classes.length <= 12);
        for (Class<?> inside : classes) {
            CHECK.holds(inside + " is static", Modifier.isStatic(inside.getModifiers()));
            CHECK.holds(inside + " is not public", !Modifier.isPublic(inside.getModifiers()));
            for (Field field : inside.getDeclaredFields()) {
                boolean isState = Modifier.isStatic(field.getModifiers()) && !Modifier.isFinal(field.getModifiers());
                CHECK.holds(field + " is no static state", !isState);
            }
        }
    }

    private static void text() throws IOException {
        String text = Files.readString(Path.of(SOURCE)).replaceAll("(?s)/\\*.*?\\*/", "").replaceAll("//.*", "");
        for (String word : RULED_OUT) {
            boolean isWord = Character.isLetter(word.charAt(0));
            Matcher matcher = Pattern.compile(isWord ? "\\b" + word + "\\b" : Pattern.quote(word)).matcher(text);
            CHECK.holds("no " + word, !matcher.find());
        }
    }

    private static String signature(Method method) {
        StringBuilder text = new StringBuilder(method.getName()).append('(');
        for (Class<?> type : method.getParameterTypes()) {
            text.append(text.charAt(text.length() - 1) == '(' ? "" : ",").append(type.getName());
        }
        return text.append(')').toString();
    }
}
