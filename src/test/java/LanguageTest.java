import java.io.IOException;
import java.lang.reflect.Constructor;
import java.lang.reflect.Field;
import java.lang.reflect.Method;
import java.lang.reflect.Modifier;
import java.nio.file.Files;
import java.nio.file.Path;
import java.util.Arrays;
import java.util.Set;
import java.util.TreeSet;
import java.util.regex.Matcher;
import java.util.regex.Pattern;

/** The rules of ../shared/LANGUAGE.md that can be seen from outside: the face, forbidden words, sizes. */
public final class LanguageTest {
    private static int wrong = 0;

    public static void main(String[] args) throws IOException {
        Path source = Path.of(args.length > 0 ? args[0] : "src/main/java/SmallerInTheShop.java");
        String text = Files.readString(source);
        faceIsTheDocuments(Files.readString(Path.of("../shared/DOC.md")));
        nothingElseIsSeen();
        classesInside();
        forbiddenWords(text);
        methodsAreShort(text);
        System.out.println(wrong == 0 ? "the language is kept to" : wrong + " rules are not kept to");
        if (wrong != 0) {
            System.exit(1);
        }
    }

    private static void must(boolean so, String rule) {
        if (!so) {
            wrong++;
            System.out.println("not so: " + rule);
        }
    }

    private static void faceIsTheDocuments(String doc) {
        Set<String> due = new TreeSet<>();
        Matcher matcher = Pattern.compile("(?m)^    public (int|long) (\\w+)\\(([^)]*)\\);").matcher(doc);
        while (matcher.find()) {
            due.add(matcher.group(1) + " " + matcher.group(2) + " " + (matcher.group(3).isEmpty() ? 0 : matcher.group(3).split(",").length));
        }
        Set<String> found = new TreeSet<>();
        for (Method method : SmallerInTheShop.class.getDeclaredMethods()) {
            if (Modifier.isPublic(method.getModifiers())) {
                found.add(method.getReturnType() + " " + method.getName() + " " + method.getParameterCount());
                must(Arrays.stream(method.getParameterTypes()).allMatch(type -> type == int.class), "ints for " + method);
            }
        }
        must(due.size() == 32, "the document has 32 methods");
        must(due.equals(found), "the face is " + due + ", found is " + found);
        must(Modifier.isFinal(SmallerInTheShop.class.getModifiers()), "the class is final");
    }

    private static void nothingElseIsSeen() {
        Set<String> open = new TreeSet<>();
        for (Method method : SmallerInTheShop.class.getDeclaredMethods()) {
            must(Modifier.isPublic(method.getModifiers()) || Modifier.isPrivate(method.getModifiers()), "private " + method);
            if (Modifier.isPublic(method.getModifiers())) {
                open.add(method.getName());
            }
        }
        for (Field field : SmallerInTheShop.class.getDeclaredFields()) {
            must(Modifier.isPrivate(field.getModifiers()), "private " + field);
        }
        Constructor<?>[] constructors = SmallerInTheShop.class.getDeclaredConstructors();
        must(constructors.length == 1 && Modifier.isPublic(constructors[0].getModifiers()), "one public constructor");
        checkNames(SmallerInTheShop.class, open);
        for (Class<?> inside : SmallerInTheShop.class.getDeclaredClasses()) {
            checkNames(inside, open);
        }
    }

    private static void checkNames(Class<?> type, Set<String> open) {
        for (Method method : type.getDeclaredMethods()) {
            must(Modifier.isPublic(method.getModifiers()) || !open.contains(method.getName()), "another name for " + method);
            must(method.getParameterCount() <= 7, "seven parameters of " + method);
        }
        int fields = 0;
        for (Field field : type.getDeclaredFields()) {
            boolean fixed = Modifier.isStatic(field.getModifiers());
            must(!fixed || Modifier.isFinal(field.getModifiers()), "final " + field);
            fields += fixed ? 0 : 1;
        }
        must(fields <= 20, "twenty fields of " + type);
    }

    private static void classesInside() {
        Class<?>[] inside = SmallerInTheShop.class.getDeclaredClasses();
        must(inside.length < 12, "twelve classes");
        for (Class<?> type : inside) {
            must(Modifier.isStatic(type.getModifiers()), "static " + type);
            must(type.getDeclaredClasses().length == 0, "no class inside " + type);
        }
    }

    private static void forbiddenWords(String text) {
        must(text.chars().allMatch(c -> c < 128), "signs below 128");
        String code = text.replaceAll("(?s)/\\*.*?\\*/", "").replaceAll("//[^\n]*", "").replaceAll("\"[^\"]*\"", "\"\"");
        String[] words = {"throw", "throws", "try", "catch", "finally", "synchronized", "assert", "import", "package", "volatile",
            "hashCode", "toString", "System", "Thread", "Random", "HashMap", "var", "yield", "native", "super", "Object"};
        for (String word : words) {
            must(!Pattern.compile("\\b" + word + "\\b").matcher(code).find(), "no word " + word);
        }
        must(!code.contains("->") && !code.contains("::") && !code.contains("Exact("), "no arrow, reference, Exact");
        must(!Pattern.compile("static\\s*\\{").matcher(code).find(), "no static block");
        // All rows are made once: what a call made would stay in the room of the run.
        for (String line : code.split("\n")) {
            if (Pattern.compile("\\bnew\\b").matcher(line).find()) {
                must(line.contains("private final") || line.contains("layouts[i] = new Layout();"), "made once: " + line.trim());
            }
        }
    }

    private static void methodsAreShort(String text) {
        String[] lines = text.split("\n");
        int start = -1;
        for (int i = 0; i < lines.length; i++) {
            if (lines[i].matches(" {4,8}(public|private|static|int|void|boolean|char|[A-Z]\\w*).*\\) \\{")) {
                start = i;
            }
            if (start >= 0 && lines[i].matches(" {4,8}\\}")) {
                must(i - start < 60, "sixty lines of " + lines[start].trim());
                start = -1;
            }
        }
    }
}
