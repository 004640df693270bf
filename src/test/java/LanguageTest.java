import java.io.IOException;
import java.lang.reflect.Constructor;
import java.lang.reflect.Field;
import java.lang.reflect.Method;
import java.lang.reflect.Modifier;
import java.nio.file.Files;
import java.nio.file.Path;
import java.util.Set;
import java.util.TreeSet;
import java.util.regex.Matcher;
import java.util.regex.Pattern;

/** The rules of LANGUAGE.md that can be seen from outside: the face, and words that may not stand there. */
public final class LanguageTest {
    private static final Check CHECK = new Check();
    private static final String FACE = "int feed(int,int,int,int,int) int back(int) int read() int place() int piece(int,int) "
            + "int picker(int,int) int lies(int,int) boolean send(int,int,int) boolean drop(int) int give(int,int) int hours(int) "
            + "boolean undo() int steps(int,int,int) int round(int,int) int share(int,int) int closest(int,int) int richest(int) "
            + "int made(int) int together(int) int missing(int,int) int longest(int) int whole() int loss(int) int stand(int,int,int) "
            + "int late() int pieceIn(int,int,int) int pickerIn(int,int,int) int year(int,int) int tell(int,boolean) int forget() "
            + "int written(int,int) int ask(int) boolean hold(int) boolean restore(int) int count(int)";

    private static void no(String why, boolean found) {
        CHECK.same(why, found, false);
    }

    public static void main(String[] args) throws IOException {
        face();
        inside();
        words(Files.readString(Path.of("src/main/java/ConfettiRound.java")));
        CHECK.end();
    }

    private static void face() {
        Set<String> due = new TreeSet<>(Set.of(FACE.replaceAll("(int|boolean) (\\w+\\()", "$1_$2").split(" ")));
        Set<String> got = new TreeSet<>();
        Set<String> names = new TreeSet<>();
        for (Method method : ConfettiRound.class.getDeclaredMethods()) {
            if (!Modifier.isPrivate(method.getModifiers())) {
                StringBuilder row = new StringBuilder(method.getReturnType() + "_" + method.getName() + "(");
                for (Class<?> type : method.getParameterTypes()) {
                    row.append(row.charAt(row.length() - 1) == '(' ? "" : ",").append(type);
                }
                got.add(row.append(")").toString());
                names.add(method.getName());
                no("a method that is not public: " + method, !Modifier.isPublic(method.getModifiers()));
            }
        }
        no("other methods than the face has: " + got, !got.equals(due));
        for (Class<?> type : ConfettiRound.class.getDeclaredClasses()) {
            for (Method method : type.getDeclaredMethods()) {
                no("the name of a public method again: " + method, names.contains(method.getName()));
            }
        }
        for (Method method : ConfettiRound.class.getDeclaredMethods()) {
            no("the name of a public method again: " + method, Modifier.isPrivate(method.getModifiers()) && names.contains(method.getName()));
        }
        Constructor<?>[] constructors = ConfettiRound.class.getDeclaredConstructors();
        CHECK.same("constructors", constructors.length, 1);
        no("a constructor as told", !Modifier.isPublic(constructors[0].getModifiers()) || constructors[0].getParameterCount() != 0);
        for (Field field : ConfettiRound.class.getDeclaredFields()) {
            no("a field for all: " + field, !Modifier.isPrivate(field.getModifiers()) && !field.getName().equals("NONE"));
            no("a static field that changes: " + field, Modifier.isStatic(field.getModifiers()) && !Modifier.isFinal(field.getModifiers()));
        }
        no("a class that is not final", !Modifier.isFinal(ConfettiRound.class.getModifiers()));
    }

    private static void inside() {
        Class<?>[] types = ConfettiRound.class.getDeclaredClasses();
        no("more than twelve classes", types.length + 1 > 12);
        for (Class<?> type : types) {
            no("an inner class that is not static: " + type, !Modifier.isStatic(type.getModifiers()));
            int fields = 0;
            for (Field field : type.getDeclaredFields()) {
                fields += Modifier.isStatic(field.getModifiers()) ? 0 : 1;
            }
            no("more than twenty fields: " + type, fields > 20);
            for (Method method : type.getDeclaredMethods()) {
                no("more than seven parameters: " + method, method.getParameterCount() > 7);
            }
        }
    }

    private static void words(String source) {
        String code = source.replaceAll("(?s)/\\*.*?\\*/", " ").replaceAll("//[^\n]*", " ").replaceAll("\"[^\"\n]*\"", "\"\"");
        for (String word : new String[] {"throw", "throws", "try", "catch", "synchronized", "assert", "volatile", "finally", "package", "Object",
            "Random", "Thread", "Exact", "hashCode", "toString", "native", "double", "float"}) {
            no("the word " + word, Pattern.compile("\\b" + word + "\\b").matcher(code).find());
        }
        no("a lambda, a method reference or a mark", Pattern.compile("->|::|@").matcher(code).find());
        no("texts joined by +", Pattern.compile("\"\\s*\\+|\\+\\s*\"").matcher(code).find());
        no("another import", Pattern.compile("import(?! java\\.util\\.Arrays;)").matcher(code).find());
        no("a loop without a bound", Pattern.compile("while \\(true\\)|for \\(;").matcher(code).find());
        Matcher library = Pattern.compile("\\b(System|Arrays|Math|Integer|Long)\\.(\\w+)").matcher(code);
        Set<String> allowed = Set.of("arraycopy", "fill", "copyOf", "copyOfRange", "min", "max", "abs", "bitCount", "compare", "floorMod", "floorDiv");
        while (library.find()) {
            no("the library's " + library.group(), !allowed.contains(library.group(2)));
        }
        lengths(code);
    }

    private static void lengths(String code) {
        int start = 0;
        int number = 0;
        for (String line : code.split("\n")) {
            number++;
            if (line.matches("( {4}| {8})(private |public |static |final )*[\\w\\[\\]]+ ?\\w*\\([^;]*\\{\\s*")) {
                start = number;
            }
            if (line.matches("( {4}| {8})\\}\\s*") && start > 0) {
                no("a method of more than sixty lines at " + start, number - start > 60);
                start = 0;
            }
        }
    }
}
