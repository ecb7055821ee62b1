import java.io.IOException;
import java.lang.reflect.Constructor;
import java.lang.reflect.Field;
import java.lang.reflect.Method;
import java.lang.reflect.Modifier;
import java.nio.file.Files;
import java.nio.file.Path;
import java.util.Arrays;
import java.util.Set;
import java.util.TreeSet;
import java.util.regex.Matcher;
import java.util.regex.Pattern;

/** The public face, and those rules of LANGUAGE.md that can be seen from the class and its text. */
public final class FaceTest {
    private static final String[] FACE = {
        "boolean stone(int,int,int,int)", "boolean take(int)", "boolean under(int,boolean)", "boolean person(int,int)",
        "int feed(int,int,int,int,int)", "int law(int)", "int notebook(int)", "int nights(int)", "int tried(int,int)",
        "int stoneIs(int,int)", "int at(int,int)", "int cross(int,int)", "int driest(int,int)", "int leastStride()",
        "int howFar(int)", "int hold(int)", "int oneMore(int,int)", "int islands(int,int)", "int key(int,int)",
        "int meet(int,int,int)", "int market()", "int firstNight(int)", "int walk(int,int,int,int)",
        "int chalk(int,int)", "int shape(int)", "int letters(int,int)", "int thrown(int)", "boolean seed(int)",
        "int keep()", "boolean undo()", "int check(int)", "int count(int)"};

    private static final Pattern METHOD =
        Pattern.compile("( {4}| {8})(?! )(?!for |if |while |switch |return )[a-zA-Z\\[\\] ]+\\(.*\\) \\{");

    public static void main(String[] args) throws IOException {
        face();
        inside();
        text();
        Due.end();
    }

    private static void face() {
        Class<?> type = SteppingStones.class;
        Due.is("public and final", Modifier.isPublic(type.getModifiers()) && Modifier.isFinal(type.getModifiers()), true);
        Set<String> found = new TreeSet<>();
        for (Method method : type.getDeclaredMethods()) {
            if (Modifier.isPrivate(method.getModifiers())) {
                continue;
            }
            Due.is(method + " is public, not static", Modifier.isPublic(method.getModifiers())
                && !Modifier.isStatic(method.getModifiers()), true);
            StringBuilder text = new StringBuilder(method.getReturnType() + " " + method.getName() + "(");
            for (Class<?> parameter : method.getParameterTypes()) {
                text.append(text.charAt(text.length() - 1) == '(' ? "" : ",").append(parameter);
            }
            found.add(text + ")");
        }
        Set<String> due = new TreeSet<>(Arrays.asList(FACE));
        Due.is("the face " + found, found.equals(due), true);
        Constructor<?>[] constructors = type.getDeclaredConstructors();
        Due.is("one constructor", constructors.length == 1 && Modifier.isPublic(constructors[0].getModifiers())
            && constructors[0].getParameterCount() == 0, true);
        for (Field field : type.getDeclaredFields()) {
            boolean isNone = field.getName().equals("NONE") && Modifier.isPublic(field.getModifiers());
            Due.is(field + " is NONE or private", isNone || Modifier.isPrivate(field.getModifiers()), true);
        }
        Due.is("NONE", SteppingStones.NONE, -1);
    }

    private static void inside() {
        Set<String> names = new TreeSet<>();
        for (String method : FACE) {
            names.add(method.substring(method.indexOf(' ') + 1, method.indexOf('(')));
        }
        Class<?>[] inner = SteppingStones.class.getDeclaredClasses();
        Due.is("at most twelve classes", inner.length + 1 <= 12, true);
        for (Class<?> type : inner) {
            Due.is(type + " is static", Modifier.isStatic(type.getModifiers()), true);
            members(type);
            for (Method method : type.getDeclaredMethods()) {
                Due.is(method + " bears no name of the face", names.contains(method.getName()), false);
            }
        }
        members(SteppingStones.class);
    }

    private static void members(Class<?> type) {
        int fields = 0;
        for (Field field : type.getDeclaredFields()) {
            boolean isStatic = Modifier.isStatic(field.getModifiers());
            fields += isStatic ? 0 : 1;
            Due.is(field + " is final if static", !isStatic || Modifier.isFinal(field.getModifiers()), true);
        }
        Due.is(type + " has at most twenty fields", fields <= 20, true);
        for (Method method : type.getDeclaredMethods()) {
            Due.is(method + " takes at most seven", method.getParameterCount() <= 7, true);
        }
    }

    private static void text() throws IOException {
        String source = Files.readString(Path.of("src/main/java/SteppingStones.java"));
        String bare = source.replaceAll("(?s)/\\*.*?\\*/", "").replaceAll("//[^\n]*", "").replaceAll("'[^']*'", "0");
        String[] banned = {"throw", "throws", "try", "catch", "synchronized", "assert", "package", "record", "protected",
            "System", "Random", "Exact", "new Thread", "double", "float", "goto", "yield", "var"};
        for (String word : banned) {
            Due.is("the word " + word, Pattern.compile("\\b" + word + "\\b").matcher(bare).find(), false);
        }
        Due.is("no lambda, no method reference", bare.contains("->") || bare.contains("::"), false);
        Matcher imports = Pattern.compile("import ([^;]+);").matcher(bare);
        while (imports.find()) {
            Due.is("import " + imports.group(1), imports.group(1).equals("java.util.Arrays"), true);
        }
        lengths(bare);
    }

    private static void lengths(String bare) {
        String[] lines = bare.split("\n");
        for (int from = 0; from < lines.length; from++) {
            Matcher head = METHOD.matcher(lines[from]);
            if (head.matches()) {
                int to = from;
                while (to < lines.length && !lines[to].equals(head.group(1) + "}")) {
                    to++;
                }
                Due.is("line " + from + " is a method of at most 60 lines: " + (to - from), to - from <= 60, true);
            }
        }
    }
}
