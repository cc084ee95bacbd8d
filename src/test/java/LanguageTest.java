import java.io.IOException;
import java.lang.reflect.Constructor;
import java.lang.reflect.Field;
import java.lang.reflect.Method;
import java.lang.reflect.Modifier;
import java.nio.file.Files;
import java.nio.file.Path;
import java.util.Arrays;
import java.util.Set;
import java.util.TreeSet;
import java.util.regex.Matcher;
import java.util.regex.Pattern;

/** Whether the program has the document's face and no other, and keeps to the rules of LANGUAGE.md. */
public final class LanguageTest {
    private static final String[] FACE = {
        "int thing(boolean)", "boolean arrow(int,int)", "boolean cut(int,int)", "boolean turn(int,int)",
        "boolean book(int,int,int)", "int booked(int,int)", "int told(int,int)", "long weight(int,int)",
        "int chance(int,int,int)", "long above()", "long below()", "boolean bars(int,int,int)",
        "int least(int,int)", "int leastAt(int,int,int)", "boolean fit(int,int,int)",
        "int agrees(int,int,int,int,int)", "int alike()", "boolean fixed(int,int)",
        "long otherwise(int,int,int)", "int draw(int,int)", "int count(int)"
    };
    private static final String[] BANNED = {
        "throw", "throws", "try", "catch", "finally", "synchronized", "assert", "import", "package", "native",
        "instanceof", "->", "::", "var", "Object", "System", "Thread", "random", "double", "float", "while",
        "equals", "hashCode", "toString", "Exact", "Arrays", "multiplyHigh", "protected"
    };
    private static final int MOST_LINES = 60;
    private static final int MOST_PARAMETERS = 7;
    private static final int MOST_CLASSES = 12;
    private static final int MOST_FIELDS = 20;

    private static final Due due = new Due();

    public static void main(String[] args) throws IOException {
        face();
        for (Class<?> inside : MadeItSo.class.getDeclaredClasses()) {
            inside(inside);
        }
        due.yes("few classes", MadeItSo.class.getDeclaredClasses().length < MOST_CLASSES);
        source(Files.readString(Path.of("src/main/java/MadeItSo.java")));
        due.end();
    }

    private static void face() {
        Class<?> face = MadeItSo.class;
        due.yes("public and final", Modifier.isPublic(face.getModifiers()) && Modifier.isFinal(face.getModifiers()));
        Set<String> names = new TreeSet<>();
        Set<String> found = new TreeSet<>();
        for (Method method : face.getDeclaredMethods()) {
            if (!Modifier.isPrivate(method.getModifiers())) {
                due.yes(method + " is public", method.getModifiers() == Modifier.PUBLIC);
                found.add(text(method));
                names.add(method.getName());
            }
        }
        Set<String> wanted = new TreeSet<>(Arrays.asList(FACE));
        due.yes("methods " + found + ", due " + wanted, found.equals(wanted));
        for (Method method : face.getDeclaredMethods()) {
            boolean twice = Modifier.isPrivate(method.getModifiers()) && names.contains(method.getName());
            due.yes("no private method has the name " + method.getName(), !twice);
        }
        for (Class<?> inside : face.getDeclaredClasses()) {
            for (Method method : inside.getDeclaredMethods()) {
                due.yes("none inside has the name " + method.getName(), !names.contains(method.getName()));
            }
        }
        Constructor<?>[] constructors = face.getDeclaredConstructors();
        due.same("constructors", constructors.length, 1);
        due.same("parameters of it", constructors[0].getParameterCount(), 0);
        due.yes("it is public", Modifier.isPublic(constructors[0].getModifiers()));
        for (Field field : face.getDeclaredFields()) {
            due.yes(field + " is private, or NONE", Modifier.isPrivate(field.getModifiers()) || field.getName().equals("NONE"));
        }
        fields(face);
    }

    private static String text(Method method) {
        StringBuilder text = new StringBuilder(method.getReturnType() + " " + method.getName() + "(");
        for (Class<?> type : method.getParameterTypes()) {
            text.append(text.charAt(text.length() - 1) == '(' ? "" : ",").append(type);
        }
        return text.append(")").toString();
    }

    private static void inside(Class<?> inside) {
        due.yes(inside + " is static", Modifier.isStatic(inside.getModifiers()));
        due.yes(inside + " is not public", !Modifier.isPublic(inside.getModifiers()));
        due.same("classes inside of " + inside, inside.getDeclaredClasses().length, 0);
        fields(inside);
    }

    private static void fields(Class<?> owner) {
        int own = 0;
        for (Field field : owner.getDeclaredFields()) {
            if (Modifier.isStatic(field.getModifiers())) {
                due.yes(field + " is final", Modifier.isFinal(field.getModifiers()));
                due.yes(field + " is a number", field.getType().isPrimitive());
            } else {
                own++;
            }
        }
        due.yes(owner + " has few fields", own <= MOST_FIELDS);
        for (Method method : owner.getDeclaredMethods()) {
            due.yes(method + " has few parameters", method.getParameterCount() <= MOST_PARAMETERS);
        }
    }

    private static void source(String source) {
        String code = source.replaceAll("(?s)/\\*.*?\\*/", "").replaceAll("//[^\n]*", "");
        for (String word : BANNED) {
            String pattern = Character.isLetter(word.charAt(0)) ? "\\b" + word + "\\b" : Pattern.quote(word);
            due.yes("no " + word, !Pattern.compile(pattern).matcher(code).find());
        }
        for (int i = 0; i < source.length(); i++) {
            due.yes("a sign of ASCII at " + i, source.charAt(i) < 128);
        }
        Matcher library = Pattern.compile("\\b(Math|Integer|Long)\\.(\\w+)").matcher(code);
        while (library.find()) {
            due.yes("library: " + library.group(), Set.of("max", "min", "bitCount").contains(library.group(2)));
        }
        methodLengths(code);
    }

    /** A method starts in a line that ends with ") {" at the depth of a class's body. */
    private static void methodLengths(String code) {
        String[] lines = code.split("\n");
        for (int i = 0; i < lines.length; i++) {
            Matcher head = Pattern.compile("^( {4}| {8})(?!for|if|else|switch|return)\\w.*\\) \\{$").matcher(lines[i]);
            if (!head.find()) {
                continue;
            }
            int end = i;
            while (end < lines.length && !lines[end].equals(head.group(1) + "}")) {
                end++;
            }
            due.yes("short: " + lines[i].trim(), end - i < MOST_LINES);
        }
    }
}
