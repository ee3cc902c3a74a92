import java.io.IOException;
import java.lang.reflect.Constructor;
import java.lang.reflect.Field;
import java.lang.reflect.Method;
import java.lang.reflect.Modifier;
import java.nio.charset.StandardCharsets;
import java.nio.file.Files;
import java.nio.file.Path;
import java.util.Arrays;
import java.util.Set;
import java.util.TreeSet;
import java.util.regex.Matcher;
import java.util.regex.Pattern;

/** The public face, and the rules of LANGUAGE.md that can be seen in the file and in the class. */
public final class FaceTest {
    private static final Due DUE = new Due();
    private static final String FACE = """
        int account(int)
        int append(char)
        int bestStroke()
        int bucket(int,int)
        int drain(int)
        int drop(int)
        int fault()
        int fullest(int)
        int funniest(int)
        int go(int)
        int groansIn(int)
        int inWell(int,int)
        boolean isCounted()
        int isKnown(int)
        int joke(int,int,int,int)
        int jokeOf(int,int)
        float knownShare()
        int laughBits(int,int)
        float laughs()
        float laughsAgain()
        int liftedOf(int,int)
        double meanDepth()
        int prime(int)
        int pump(int)
        int read()
        int reason(int,boolean)
        int restore()
        int save()
        int stroke(int)
        int strokes(int)
        int strokesAgain(int)
        int undo()
        int wellOf(int,int)
        int wholeLaughs()
        int would(int)
        int write(int)
        int writePump()
        int written(int)
        """;
    private static final String CONSTANTS =
        "NONE=-1 BAD=-2 STATE=-3 FULL=-4 REFUSED=-5 NOTHING=-6 ";
    private static final String[] FORBIDDEN = {"import", "package", "->", "::", "catch", "try", "throw",
        "finally", "synchronized", "assert", "native", "volatile", "Object", "Class", "Thread", "Float",
        "Double", "Exception", "Random", "toString", "hashCode", "equals"};
    private static final Set<String> ALLOWED = Set.of("Math.min", "Math.max", "System.arraycopy");

    public static void main(String[] args) throws IOException, IllegalAccessException {
        face();
        constants();
        members(JokePump.class);
        for (Class<?> inside : JokePump.class.getDeclaredClasses()) {
            inside(inside);
        }
        DUE.is("some twelve classes", JokePump.class.getDeclaredClasses().length <= 11, true);
        source(Files.readString(Path.of("src/main/java/JokePump.java"), StandardCharsets.ISO_8859_1));
        DUE.finish("FaceTest");
    }

    private static String told(Method method) {
        StringBuilder text = new StringBuilder();
        text.append(method.getReturnType().getName()).append(' ').append(method.getName()).append('(');
        for (Class<?> type : method.getParameterTypes()) {
            text.append(text.charAt(text.length() - 1) == '(' ? "" : ",").append(type.getName());
        }
        return text.append(')').toString();
    }

    private static void face() {
        Set<String> due = new TreeSet<>(Arrays.asList(FACE.strip().split("\\s*\n\\s*")));
        Set<String> got = new TreeSet<>();
        for (Method method : JokePump.class.getDeclaredMethods()) {
            if (!Modifier.isPrivate(method.getModifiers())) {
                got.add(told(method));
                DUE.is(method + " is public alone", method.getModifiers(), Modifier.PUBLIC);
            }
        }
        DUE.is("the face", got.toString(), due.toString());
        DUE.is("the class", JokePump.class.getModifiers(), Modifier.PUBLIC | Modifier.FINAL);
        Constructor<?>[] constructors = JokePump.class.getDeclaredConstructors();
        DUE.is("constructors", constructors.length, 1);
        DUE.is("the constructor", constructors[0].toString(), "public JokePump()");
    }

    private static void constants() throws IllegalAccessException {
        StringBuilder got = new StringBuilder();
        for (Field field : JokePump.class.getDeclaredFields()) {
            if (!Modifier.isPrivate(field.getModifiers())) {
                DUE.is(field + " is a constant", field.getModifiers(),
                    Modifier.PUBLIC | Modifier.STATIC | Modifier.FINAL);
                got.append(field.getName()).append('=').append(field.getInt(null)).append(' ');
            }
        }
        DUE.is("the constants", got.toString(), CONSTANTS);
    }

    private static void members(Class<?> type) {
        Set<String> publicNames = new TreeSet<>();
        for (Method method : JokePump.class.getMethods()) {
            publicNames.add(method.getName());
        }
        int fields = 0;
        for (Field field : type.getDeclaredFields()) {
            boolean isStatic = Modifier.isStatic(field.getModifiers());
            DUE.is(field + " is final if it is static", !isStatic || Modifier.isFinal(field.getModifiers()),
                true);
            fields += isStatic ? 0 : 1;
        }
        DUE.is(type + " has some twenty fields", fields <= 20, true);
        for (Method method : type.getDeclaredMethods()) {
            if (!Modifier.isPublic(method.getModifiers())) {
                DUE.is(method + " has a name of its own", publicNames.contains(method.getName()), false);
            }
            DUE.is(method + " has at most seven parameters", method.getParameterCount() <= 7, true);
        }
    }

    private static void inside(Class<?> type) {
        DUE.is(type + " is private, static and final", type.getModifiers(),
            Modifier.PRIVATE | Modifier.STATIC | Modifier.FINAL);
        members(type);
    }

    private static void source(String text) {
        DUE.is("signs are 1 to 127", text.chars().allMatch(sign -> sign >= 1 && sign <= 127), true);
        String code = text.replaceAll("(?s)/\\*.*?\\*/", "").replaceAll("//[^\n]*", "")
            .replaceAll("\"[^\"\n]*\"", "\"\"");
        for (String word : FORBIDDEN) {
            String edge = Character.isLetter(word.charAt(0)) ? "\\b" : "";
            boolean isThere = Pattern.compile(edge + Pattern.quote(word) + edge).matcher(code).find();
            DUE.is("the word " + word + " is there", isThere, false);
        }
        Matcher calls = Pattern.compile("\\b(?:Math|System|Arrays|Integer|Long|List|String)\\.\\w+")
            .matcher(code);
        while (calls.find()) {
            DUE.is(calls.group() + " is allowed", ALLOWED.contains(calls.group()), true);
        }
    }
}
