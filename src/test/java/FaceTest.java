import java.io.IOException;
import java.lang.reflect.Constructor;
import java.lang.reflect.Executable;
import java.lang.reflect.Field;
import java.lang.reflect.Method;
import java.lang.reflect.Modifier;
import java.nio.file.Files;
import java.nio.file.Path;
import java.util.Arrays;
import java.util.Set;
import java.util.TreeSet;
import java.util.regex.Matcher;
import java.util.regex.Pattern;

/** The class's face is the document's and no more, and its text has nothing that the language's rules forbid. */
public final class FaceTest {
    private static final Check CHECK = new Check("FaceTest");
    private static final Path PROGRAM = Path.of("src/main/java/CardRights.java");
    private static final Path DOCUMENT = Path.of("../shared/DOC.md");
    private static final int MOST_LINES = 60;
    private static final int MOST_FIELDS = 20;
    private static final String ARGUMENT = " throws IllegalArgumentException";
    private static final String STATE = ARGUMENT + ", IllegalStateException";
    private static final String[] FACE = {
        "int NONE",
        "CardRights()",
        "int room(int)" + STATE,
        "int door(int, int)" + STATE,
        "int person(int)" + STATE,
        "int card(int, int)" + STATE,
        "int right(int, int, int, int, int)" + STATE,
        "int end(int, int)" + ARGUMENT,
        "int lost(int, int)" + ARGUMENT,
        "boolean two(int, boolean)" + ARGUMENT,
        "boolean airlock(int, int, boolean)" + ARGUMENT,
        "int state(int, boolean, int)" + ARGUMENT,
        "int off(int, boolean)" + ARGUMENT,
        "int asks(int, int, int, int)" + STATE,
        "int both(int, int, int, int, int)" + STATE,
        "int where(int)" + ARGUMENT,
        "int inside(int)" + ARGUMENT,
        "int muster(int, int)" + ARGUMENT,
        "int against()",
        "int found(int, int)" + ARGUMENT,
        "int uses()",
        "int fewest()",
        "int now()"
    };
    private static final String[] FORBIDDEN = {
        "->", "::", "\\btry\\b", "\\bcatch\\b", "\\bfinally\\b", "\\bsynchronized\\b", "\\bassert\\b", "\\bpackage\\b",
        "\\bextends \\w*Exception", "static \\{", "\\bequals\\(", "\\bhashCode\\(", "\\btoString\\(",
        "import (?!java\\.util\\.(ArrayList|Arrays|List);)", "\\w*Exact\\(", "\\bwhile \\(true\\)", "for \\(;;\\)"
    };

    private FaceTest() {
    }

    public static void main(String[] args) throws IOException {
        listIsTheDocuments();
        faceIsTheDocuments();
        classesInside();
        privateMethodsHaveOtherNames();
        textKeepsTheRules();
        CHECK.finish();
    }

    /** The list above says what the document's text under 'The public face' says. */
    private static void listIsTheDocuments() throws IOException {
        if (!Files.isRegularFile(DOCUMENT)) {
            System.out.println("FaceTest: " + DOCUMENT + " is not there, so the face is not looked up");
            return;
        }
        Set<String> shown = new TreeSet<>();
        for (String line : Files.readString(DOCUMENT).split("\n")) {
            if (line.startsWith("    public ")) {
                shown.add(line.trim().replaceAll("^public (static final )?", "").replaceAll(" = -1;|;$", "")
                        .replaceAll("(int|boolean) \\w+(?=[,)])", "$1"));
            }
        }
        CHECK.tell("the document's face", shown.toString(), new TreeSet<>(Arrays.asList(FACE)).toString());
    }

    private static void faceIsTheDocuments() {
        Set<String> seen = new TreeSet<>();
        for (Field field : CardRights.class.getDeclaredFields()) {
            if (!Modifier.isPrivate(field.getModifiers())) {
                seen.add(field.getType() + " " + field.getName());
            }
        }
        for (Constructor<?> made : CardRights.class.getDeclaredConstructors()) {
            if (!Modifier.isPrivate(made.getModifiers())) {
                seen.add("CardRights" + rest(made));
            }
        }
        for (Method method : CardRights.class.getDeclaredMethods()) {
            if (!Modifier.isPrivate(method.getModifiers())) {
                seen.add(method.getReturnType() + " " + method.getName() + rest(method));
            }
        }
        CHECK.tell("what is not private", seen.toString(), new TreeSet<>(Arrays.asList(FACE)).toString());
        CHECK.tell("the class", Modifier.toString(CardRights.class.getModifiers()), "public final");
    }

    private static String rest(Executable executable) {
        StringBuilder text = new StringBuilder("(");
        for (Class<?> type : executable.getParameterTypes()) {
            text.append(text.length() > 1 ? ", " : "").append(type.getSimpleName());
        }
        text.append(')');
        Class<?>[] thrown = executable.getExceptionTypes();
        for (int i = 0; i < thrown.length; i++) {
            text.append(i == 0 ? " throws " : ", ").append(thrown[i].getSimpleName());
        }
        return text.toString();
    }

    private static void classesInside() {
        Class<?>[] inside = CardRights.class.getDeclaredClasses();
        CHECK.is("at most twelve classes", inside.length + 1 <= 12, true);
        hasFewFields(CardRights.class);
        for (Class<?> one : inside) {
            CHECK.is(one.getName() + " is static", Modifier.isStatic(one.getModifiers()), true);
            CHECK.is(one.getName() + " is seen outside", Modifier.isPublic(one.getModifiers()), false);
            hasFewFields(one);
            for (Field field : one.getDeclaredFields()) {
                boolean loose = Modifier.isStatic(field.getModifiers()) && !Modifier.isFinal(field.getModifiers());
                CHECK.is(one.getName() + "." + field.getName() + " is static state", loose, false);
            }
        }
    }

    private static void hasFewFields(Class<?> owner) {
        int count = 0;
        for (Field field : owner.getDeclaredFields()) {
            count += Modifier.isStatic(field.getModifiers()) ? 0 : 1;
        }
        CHECK.is(owner.getName() + " has at most twenty fields", count <= MOST_FIELDS, true);
    }

    private static void privateMethodsHaveOtherNames() {
        Set<String> names = new TreeSet<>();
        for (Method method : CardRights.class.getMethods()) {
            names.add(method.getName());
        }
        hasNone(CardRights.class, names);
        for (Class<?> one : CardRights.class.getDeclaredClasses()) {
            hasNone(one, names);
        }
    }

    private static void hasNone(Class<?> owner, Set<String> names) {
        for (Method method : owner.getDeclaredMethods()) {
            if (!Modifier.isPublic(method.getModifiers())) {
                CHECK.is(owner.getName() + "." + method.getName() + " has a public one's name", names.contains(method.getName()), false);
            }
            CHECK.is(method.getName() + " has at most seven parameters", method.getParameterCount() <= 7, true);
        }
    }

    private static void textKeepsTheRules() throws IOException {
        String whole = Files.readString(PROGRAM);
        CHECK.is("the text has a character beyond 255", whole.chars().anyMatch(sign -> sign > 255), false);
        String text = whole.replaceAll("(?s)/\\*.*?\\*/", "").replaceAll("//[^\n]*", "");
        for (String forbidden : FORBIDDEN) {
            CHECK.is("the text has " + forbidden, Pattern.compile(forbidden).matcher(text).find(), false);
        }
        methodsAreShort(whole);
    }

    /** A method ends with the brace that stands as far in as its first line. */
    private static void methodsAreShort(String text) {
        Matcher method = Pattern.compile("(?ms)^( {4}| {8})(?:public|private) [^;=\\n]*\\([^;]*?\\{\\n.*?^\\1\\}").matcher(text);
        int seen = 0;
        while (method.find()) {
            seen++;
            String all = method.group();
            CHECK.is(all.trim().split("\n")[0] + " is short", all.split("\n").length <= MOST_LINES, true);
        }
        CHECK.is("methods were seen", seen >= FACE.length - 1, true);
    }
}
