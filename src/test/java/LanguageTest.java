import java.lang.reflect.Executable;
import java.lang.reflect.Field;
import java.lang.reflect.Member;
import java.lang.reflect.Method;
import java.lang.reflect.Modifier;
import java.nio.charset.StandardCharsets;
import java.nio.file.Files;
import java.nio.file.Path;
import java.util.ArrayDeque;
import java.util.ArrayList;
import java.util.Deque;
import java.util.List;
import java.util.Set;
import java.util.TreeSet;
import java.util.regex.Matcher;
import java.util.regex.Pattern;

/** The rules of ../shared/LANGUAGE.md that can be seen in the text of the program without reading it whole. */
public final class LanguageTest {
    private static int wrong = 0;

    private LanguageTest() {
    }

    public static void main(String[] args) throws java.io.IOException {
        String source = new String(Files.readAllBytes(Path.of("src/main/java/LateOrders.java")), StandardCharsets.UTF_8);
        bytes(source);
        String code = withoutComments(source);
        words(code);
        imports(code);
        statics(code);
        methods(code);
        face();
        System.out.println("LanguageTest: " + wrong + " breaches");
        if (wrong != 0) {
            System.exit(1);
        }
    }

    private static void breach(String what) {
        wrong++;
        System.out.println("breach: " + what);
    }

    private static void bytes(String source) {
        for (int i = 0; i < source.length(); i++) {
            if (source.charAt(i) > 126) {
                breach("a sign beyond 126 at " + i);
            }
        }
    }

    /** Texts are left empty, so that no word in them is taken for one of the program. */
    private static String withoutComments(String source) {
        String code = source.replaceAll("(?s)/\\*.*?\\*/", " ").replaceAll("//[^\n]*", " ");
        return code.replaceAll("\"[^\"]*\"", "\"\"").replaceAll("'[^']*'", "' '");
    }

    private static void words(String code) {
        String[] banned = {"throw", "throws", "try", "catch", "finally", "synchronized", "assert", "float", "double", "hashCode",
            "toString", "equals", "Object", "System\\.out", "System\\.nano", "System\\.current", "Random", "Thread", "instanceof",
            "package", "protected", "volatile", "native", "transient", "\\w+Exact", "null\\."};
        for (String word : banned) {
            if (Pattern.compile("\\b" + word + "\\b").matcher(code).find()) {
                breach(word);
            }
        }
        for (String sign : new String[] {"->", "::", "@", "\" +", "+ \""}) {
            if (code.contains(sign)) {
                breach(sign);
            }
        }
    }

    private static void imports(String code) {
        Matcher m = Pattern.compile("import ([\\w.*]+);").matcher(code);
        while (m.find()) {
            if (!m.group(1).matches("java\\.util\\.(Arrays|ArrayList|List|Iterator)")) {
                breach("import " + m.group(1));
            }
        }
    }

    private static void statics(String code) {
        Matcher m = Pattern.compile("static (?!final)(\\w+(?:\\[\\])*) (\\w+)\\s*[=;]").matcher(code);
        while (m.find()) {
            breach("static field " + m.group(2));
        }
        if (Pattern.compile("static\\s*\\{").matcher(code).find()) {
            breach("static block");
        }
        m = Pattern.compile("\\bclass (\\w+)").matcher(code);
        int classes = 0;
        while (m.find()) {
            classes++;
        }
        if (classes > 12) {
            breach(classes + " classes");
        }
        m = Pattern.compile("public (?:static |final )*\\w+ (\\w+)\\(").matcher(code);
        while (m.find()) {
            if (Pattern.compile("private (?:static )?[\\w\\[\\]]+ " + m.group(1) + "\\(").matcher(code).find()) {
                breach("a private method bears the name " + m.group(1));
            }
        }
    }

    /** Rules 1 and 11: what the document shows is public, and nothing else is to be seen; no class has too many fields. */
    private static void face() throws java.io.IOException {
        String document = new String(Files.readAllBytes(Path.of("../shared/DOC.md")), StandardCharsets.UTF_8);
        Set<String> due = new TreeSet<>();
        Matcher m = Pattern.compile("(?m)^    public (.*);$").matcher(document);
        while (m.find()) {
            due.add(m.group(1).replaceAll("(int|boolean) \\w+(?=[,)])", "$1"));
        }
        Set<String> seen = new TreeSet<>();
        for (Member member : members()) {
            if (!Modifier.isPrivate(member.getModifiers())) {
                seen.add(shown(member));
            }
        }
        if (due.size() != 37 || !seen.equals(due)) {
            breach("the face is " + seen + ", in the document " + due);
        }
        for (Class<?> inside : LateOrders.class.getDeclaredClasses()) {
            int how = inside.getModifiers();
            if (!Modifier.isStatic(how) || Modifier.isPublic(how) || Modifier.isProtected(how) || inside.getDeclaredClasses().length > 0) {
                breach("the class inside " + inside);
            }
            fields(inside);
        }
        fields(LateOrders.class);
        if (LateOrders.class.getModifiers() != (Modifier.PUBLIC | Modifier.FINAL)) {
            breach("the class is not public and final alone");
        }
    }

    private static List<Member> members() {
        List<Member> all = new ArrayList<>();
        all.addAll(List.of(LateOrders.class.getDeclaredFields()));
        all.addAll(List.of(LateOrders.class.getDeclaredConstructors()));
        all.addAll(List.of(LateOrders.class.getDeclaredMethods()));
        return all;
    }

    private static String shown(Member member) {
        if (member instanceof Field) {
            return "static final int " + member.getName() + " = " + LateOrders.NONE;
        }
        Executable call = (Executable) member;
        StringBuilder all = new StringBuilder();
        for (Class<?> type : call.getParameterTypes()) {
            all.append(all.length() == 0 ? "" : ", ").append(type);
        }
        String type = call instanceof Method ? ((Method) call).getReturnType() + " " : "";
        return type + call.getName() + "(" + all + ")";
    }

    private static void fields(Class<?> type) {
        int many = 0;
        for (Field field : type.getDeclaredFields()) {
            many += Modifier.isStatic(field.getModifiers()) ? 0 : 1;
        }
        if (many > 20) {
            breach(many + " fields in " + type);
        }
    }

    /** How long each block that is a method is, and how many parameters it takes. */
    private static void methods(String code) {
        String[] lines = code.split("\n");
        Pattern head = Pattern.compile("^\\s+(?:public|private)[\\w\\s\\[\\]]*\\(([^)]*)\\) \\{$");
        Deque<Integer> open = new ArrayDeque<>();
        for (int i = 0; i < lines.length; i++) {
            Matcher m = head.matcher(lines[i]);
            if (m.find()) {
                if (m.group(1).split(",").length > 7) {
                    breach("parameters in line " + i);
                }
                int indent = lines[i].indexOf('p');
                int end = i + 1;
                while (end < lines.length && !lines[end].equals(" ".repeat(indent) + "}")) {
                    end++;
                }
                open.push(end);
                if (end - i > 60) {
                    breach("a method of " + (end - i) + " lines at " + lines[i].trim());
                }
            }
        }
        if (open.size() < 36) {
            breach("methods not found");
        }
    }
}
