import java.lang.reflect.Constructor;
import java.lang.reflect.Field;
import java.lang.reflect.Method;
import java.lang.reflect.Modifier;
import java.nio.file.Files;
import java.nio.file.Path;
import java.util.Set;
import java.util.TreeSet;
import java.util.regex.Matcher;
import java.util.regex.Pattern;

/** The public face is the document's and no more, and the file keeps to what can be seen of LANGUAGE.md. */
public final class FaceTest {
    private static final Path SOURCE = Path.of("src/main/java/TastingHouse.java");
    private static final String[] FACE = {"int feed(int,int,int,int,int)", "boolean end(int)", "int plan(int)",
        "int fault(int)", "int code(int,int,int)", "int answer(int,int,int)", "int score(int,int,int,int)",
        "int swap(int,int,int)", "int annul(int)", "boolean as(int)", "boolean open()", "int answers(int)",
        "int inside(int,int)", "int trial(int,int)", "long chance(int,boolean)", "long guess(boolean,int,int)",
        "long table(boolean,int,int,int)", "int needed(boolean,int,int,int)", "int mean(int)", "int drift(int)",
        "int scored(int,int,int)", "int claim(int)", "int orders(int,int)", "int served(int,int)", "int serves(int)",
        "int all(int)"};

    public static void main(String[] args) throws Exception {
        face();
        classesInside();
        source();
        Check.end();
    }

    private static String signature(Method method) {
        StringBuilder text = new StringBuilder(method.getReturnType() + " " + method.getName() + "(");
        for (Class<?> type : method.getParameterTypes()) {
            text.append(text.charAt(text.length() - 1) == '(' ? "" : ",").append(type);
        }
        return text.append(")").toString();
    }

    private static void face() throws Exception {
        Class<?> type = TastingHouse.class;
        Check.due("public final", Modifier.isPublic(type.getModifiers()) && Modifier.isFinal(type.getModifiers()), true);
        Set<String> want = new TreeSet<>(Set.of(FACE));
        for (Method method : type.getDeclaredMethods()) {
            if (Modifier.isPrivate(method.getModifiers())) {
                continue;
            }
            Check.due("public " + method, Modifier.isPublic(method.getModifiers()), true);
            Check.due("asked for: " + method, want.remove(signature(method)), true);
        }
        Check.due("missing: " + want, want.size(), 0);
        for (Field field : type.getDeclaredFields()) {
            boolean isNone = field.getName().equals("NONE");
            Check.due("field " + field, Modifier.isPrivate(field.getModifiers()), !isNone);
        }
        Check.due("NONE", TastingHouse.NONE, -1);
        Check.due("constructors", type.getDeclaredConstructors().length, 1);
        Constructor<?> constructor = type.getDeclaredConstructor();
        Check.due("constructor", Modifier.isPublic(constructor.getModifiers()), true);
    }

    private static void classesInside() {
        Set<String> publicNames = new TreeSet<>();
        for (String method : FACE) {
            publicNames.add(method.substring(method.indexOf(' ') + 1, method.indexOf('(')));
        }
        Class<?>[] inside = TastingHouse.class.getDeclaredClasses();
        Check.due("at most twelve classes", inside.length < 12, true);
        for (Class<?> type : inside) {
            Check.due("static: " + type, Modifier.isStatic(type.getModifiers()), true);
            int fields = 0;
            for (Field field : type.getDeclaredFields()) {
                fields += Modifier.isStatic(field.getModifiers()) ? 0 : 1;
                boolean isConstant = !Modifier.isStatic(field.getModifiers()) || Modifier.isFinal(field.getModifiers());
                Check.due("no static state: " + field, isConstant, true);
            }
            Check.due("at most twenty fields: " + type, fields <= 20, true);
            for (Method method : type.getDeclaredMethods()) {
                Check.due("no name of the face: " + method, publicNames.contains(method.getName()), false);
                Check.due("at most seven parameters: " + method, method.getParameterCount() <= 7, true);
            }
        }
    }

    private static void source() throws Exception {
        String text = Files.readString(SOURCE);
        for (char sign : text.toCharArray()) {
            if (sign > 126) {
                Check.due("sign " + (int) sign, true, false);
            }
        }
        String code = text.replaceAll("(?s)/\\*.*?\\*/", "").replaceAll("//[^\n]*", "")
            .replaceAll("\"[^\"\n]*\"", "\"\"");
        String[] ruledOut = {"\\bthrow\\b", "\\bthrows\\b", "\\btry\\b", "\\bcatch\\b", "\\bsynchronized\\b", "\\bassert\\b",
            "->", "::", "\\bgoto\\b", "while \\(true\\)", "for \\(;;\\)", "\\bpackage\\b", "\\w+Exact\\b", "\\bprotected\\b",
            "\\bObject\\b", "\\bstatic \\{", "\" \\+ ", " \\+ \"", "\\bvar\\b", "\\bSystem\\.(?!arraycopy\\b)\\w+",
            "\\bMath\\.(?!max\\b|min\\b|floorDiv\\b|floorMod\\b|abs\\b)\\w+", "import (?!java\\.util\\.Arrays;)"};
        for (String pattern : ruledOut) {
            Matcher matcher = Pattern.compile(pattern).matcher(code);
            Check.due("ruled out: " + pattern, matcher.find(), false);
        }
        Check.due("no loop with 'new' but in fields and constructors",
            Pattern.compile("^ {12,}[^\n]*\\bnew\\b", Pattern.MULTILINE).matcher(code).find(), false);
        longestMethod(code);
    }

    private static void longestMethod(String code) {
        int begun = 0;
        String[] lines = code.split("\n");
        for (int i = 0; i < lines.length; i++) {
            if (lines[i].matches(" {4}( {4})?[^ }].*\\) \\{")) {
                begun = i;
            }
            if (lines[i].matches(" {4}( {4})?\\}")) {
                boolean isMethod = lines[begun].indexOf(lines[begun].trim()) == lines[i].indexOf('}');
                Check.due("short: " + lines[begun].trim(), !isMethod || i - begun <= 60, true);
            }
        }
    }
}
