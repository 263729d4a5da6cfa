import java.io.IOException;
import java.lang.reflect.Constructor;
import java.lang.reflect.Field;
import java.lang.reflect.Method;
import java.lang.reflect.Modifier;
import java.nio.file.Files;
import java.nio.file.Path;
import java.util.Arrays;
import java.util.Set;
import java.util.TreeSet;
import java.util.regex.Matcher;
import java.util.regex.Pattern;

/** What of LANGUAGE.md a program can see: the face, the words, the sizes. Runs in the project's directory. */
public final class LanguageTest {
    private static final String[] FACE = {
        "int about(int)", "int audit()", "int bound(int)", "int capacity(int)", "int channel(int, int, int, int)",
        "int feed(int, long)", "int giveUp()", "int kept(int, int, int, int)",
        "int keptKey(int, int, int, int, int)", "int keptMany(int, int, int)", "int key(int, int, int, int)",
        "int limit(int)", "int many(int, int)", "int mark()", "int marked(int, int)",
        "int restore(int, int, int, int, int)", "int run(int)", "int task(int, int, int)", "int turn(int, int)",
        "int wide(int, int)", "long keptSum(int, int, int)", "long keptValue(int, int, int, int, int)",
        "long sum(int, int)", "long value(int, int, int, int)"};
    private static int wrong = 0;

    private static void hold(boolean so, String what) {
        if (!so) {
            wrong++;
            System.out.println("not so: " + what);
        }
    }

    private static String signature(Method method) {
        StringBuilder text = new StringBuilder(method.getReturnType() + " " + method.getName() + "(");
        for (Class<?> type : method.getParameterTypes()) {
            text.append(text.charAt(text.length() - 1) == '(' ? "" : ", ").append(type);
        }
        return text.append(")").toString();
    }

    private static void checkFace() {
        Set<String> face = new TreeSet<>();
        Set<String> names = new TreeSet<>();
        for (Method method : LooseMarks.class.getDeclaredMethods()) {
            if (Modifier.isPublic(method.getModifiers())) {
                face.add(signature(method));
                names.add(method.getName());
                hold(!Modifier.isStatic(method.getModifiers()), method + " is not static");
            } else {
                hold(Modifier.isPrivate(method.getModifiers()), method + " is private");
            }
        }
        hold(face.equals(new TreeSet<>(Arrays.asList(FACE))), "the face is the document's: " + face);
        for (Constructor<?> made : LooseMarks.class.getDeclaredConstructors()) {
            hold(made.toString().equals("public LooseMarks(int)"), made + " is the document's");
        }
        hold(LooseMarks.class.getModifiers() == (Modifier.PUBLIC | Modifier.FINAL), "the class is public final");
        checkClass(LooseMarks.class, names);
        for (Class<?> inside : LooseMarks.class.getDeclaredClasses()) {
            hold(Modifier.isStatic(inside.getModifiers()), inside + " is static");
            hold(!Modifier.isPublic(inside.getModifiers()), inside + " is not public");
            checkClass(inside, names);
        }
        hold(LooseMarks.class.getDeclaredClasses().length < 12, "at most twelve classes");
    }

    private static void checkClass(Class<?> of, Set<String> faceNames) {
        Set<String> constants = new TreeSet<>(Set.of("NONE", "UNKNOWN", "OUTSIDE", "STATE", "ROOM"));
        int fields = 0;
        for (Field field : of.getDeclaredFields()) {
            boolean isStatic = Modifier.isStatic(field.getModifiers());
            fields += isStatic ? 0 : 1;
            hold(!isStatic || Modifier.isFinal(field.getModifiers()), field + " is final");
            hold(Modifier.isPrivate(field.getModifiers()) || constants.contains(field.getName()),
                    field + " is private");
        }
        hold(fields <= 20, of + " has at most twenty fields");
        for (Method method : of.getDeclaredMethods()) {
            hold(method.getParameterCount() <= 7, method + " has at most seven parameters");
            hold(Modifier.isPublic(method.getModifiers()) || !faceNames.contains(method.getName()),
                    method + " does not bear a public name");
        }
    }

    private static void checkWords(String source) {
        String bare = source.replaceAll("(?s)/\\*.*?\\*/", "").replaceAll("//[^\n]*", "");
        String[] never = {"throw", "throws", "try", "catch", "finally", "synchronized", "assert", "package", "yield",
            "Exact", "Random", "System\\.(?!arraycopy)", "Thread", "Object", "Exception", "->", "::", "static \\{",
            "protected", "native", "volatile", "hashCode", "equals", "toString"};
        for (String word : never) {
            String bound = Character.isLetter(word.charAt(0)) && word.matches("\\w+") ? "\\b" + word + "\\b" : word;
            hold(!Pattern.compile(bound).matcher(bare).find(), "no " + word + " in the source");
        }
        Matcher imports = Pattern.compile("import ([^;]*);").matcher(bare);
        while (imports.find()) {
            hold(Set.of("java.util.Arrays", "java.util.ArrayList", "java.util.List", "java.util.Iterator")
                    .contains(imports.group(1)), imports.group(1) + " may be imported");
        }
        hold(source.chars().allMatch(c -> c < 256), "characters 0 to 255 alone");
    }

    private static void checkLengths(String source) {
        String[] lines = source.split("\n");
        int start = -1;
        String end = "";
        for (int i = 0; i < lines.length; i++) {
            boolean opens = lines[i].matches("( {4}| {8})[a-zA-Z].*\\(.*\\) \\{");
            if (start < 0 && opens && !lines[i].matches(" *(if|for|while|switch) .*")) {
                start = i;
                end = lines[i].replaceAll("[^ ].*", "") + "}";
            } else if (start >= 0 && lines[i].equals(end)) {
                hold(i - start <= 60, "the method at line " + (start + 1) + " is short");
                start = -1;
            }
        }
    }

    public static void main(String[] args) throws IOException {
        String source = Files.readString(Path.of("src/main/java/LooseMarks.java"));
        checkFace();
        checkWords(source);
        checkLengths(source);
        System.out.println(wrong == 0 ? "the source keeps the rules" : wrong + " rules are not kept");
        if (wrong != 0) {
            System.exit(1);
        }
    }
}
