import java.io.IOException;
import java.lang.reflect.Field;
import java.lang.reflect.Method;
import java.lang.reflect.Modifier;
import java.nio.file.Files;
import java.nio.file.Path;
import java.util.ArrayList;
import java.util.List;
import java.util.TreeSet;
import java.util.regex.Matcher;
import java.util.regex.Pattern;

/** The face as the document has it, and those rules of LANGUAGE.md that can be read off the class or its text. */
public final class LanguageTests {
    private static final String PROGRAM = "src/main/java/MendedProgram.java";
    private static final String DOCUMENT = "../shared/DOC.md";
    private static int wrong;

    private static void due(boolean right, String rule) {
        if (!right) {
            wrong++;
            System.out.println("LanguageTests: " + rule);
        }
    }

    public static void main(String[] args) throws IOException {
        String text = Files.readString(Path.of(PROGRAM));
        String bare = text.replaceAll("(?s)/\\*.*?\\*/", "").replaceAll("//.*", "")
                .replaceAll("\"[^\"]*\"", "\"\"").replaceAll("'[^']*'", "' '");
        face(Files.readString(Path.of(DOCUMENT)));
        members();
        words(bare);
        lengths(bare);
        System.out.println("LanguageTests: " + wrong + " wrong");
        if (wrong != 0) System.exit(1);
    }

    private static String told(Method m) {
        StringBuilder b = new StringBuilder(m.getReturnType().getSimpleName()).append(' ').append(m.getName()).append('(');
        for (Class<?> p : m.getParameterTypes()) b.append(p.getSimpleName()).append(' ');
        b.append(')');
        TreeSet<String> thrown = new TreeSet<>();
        for (Class<?> t : m.getExceptionTypes()) thrown.add(t.getSimpleName());
        return b.append(thrown).toString();
    }

    private static void face(String document) {
        String face = document.substring(document.indexOf("public final class"), document.indexOf("## Terms"));
        Matcher line = Pattern.compile("public (int|long) (\\w+)\\(([^)]*)\\)( throws ([^;]*))?;").matcher(face);
        TreeSet<String> due = new TreeSet<>();
        while (line.find()) {
            StringBuilder b = new StringBuilder(line.group(1)).append(' ').append(line.group(2)).append('(');
            for (String p : line.group(3).split(",")) {
                if (!p.isBlank()) b.append(p.trim().split(" ")[0]).append(' ');
            }
            TreeSet<String> thrown = new TreeSet<>();
            if (line.group(5) != null) thrown.addAll(List.of(line.group(5).split(", ")));
            due.add(b.append(')').append(thrown).toString());
        }
        TreeSet<String> has = new TreeSet<>();
        for (Method m : MendedProgram.class.getDeclaredMethods()) {
            if (Modifier.isPublic(m.getModifiers())) has.add(told(m));
        }
        due(due.size() == 34, "the document's face could not be read: " + due.size());
        due(has.equals(due), "rule 1: the face is " + has + ", due is " + due);
        due(MendedProgram.class.getConstructors().length == 1
                && MendedProgram.class.getDeclaredConstructors().length == 1, "rule 1: one constructor");
        due(Modifier.isFinal(MendedProgram.class.getModifiers()), "rule 1: final");
        due(MendedProgram.NONE == -1, "NONE");
    }

    private static void members() {
        TreeSet<String> names = new TreeSet<>();
        for (Method m : MendedProgram.class.getMethods()) {
            if (m.getDeclaringClass() == MendedProgram.class) names.add(m.getName());
        }
        List<Class<?>> classes = new ArrayList<>(List.of(MendedProgram.class.getDeclaredClasses()));
        due(classes.size() <= 11, "rule 11: classes " + classes.size());
        for (Class<?> c : classes) {
            due(Modifier.isStatic(c.getModifiers()) && !Modifier.isPublic(c.getModifiers())
                    && !Modifier.isProtected(c.getModifiers()), "rules 1 and 2: " + c);
        }
        classes.add(MendedProgram.class);
        for (Class<?> c : classes) {
            int fields = 0;
            for (Field f : c.getDeclaredFields()) {
                int is = f.getModifiers();
                if (!Modifier.isStatic(is)) fields++;
                due(!Modifier.isStatic(is) || Modifier.isFinal(is), "rule 5: " + f);
                due(c != MendedProgram.class || Modifier.isPrivate(is) || f.getName().equals("NONE"), "rule 1: " + f);
            }
            due(fields <= 20, "rule 11: fields of " + c);
            for (Method m : c.getDeclaredMethods()) {
                boolean open = c == MendedProgram.class && Modifier.isPublic(m.getModifiers());
                due(open || m.isSynthetic() || c.isEnum() || !names.contains(m.getName()), "rule 1: " + m);
                due(open || m.isSynthetic() || c != MendedProgram.class || Modifier.isPrivate(m.getModifiers()),
                        "rule 1: " + m);
                due(m.getParameterCount() <= 7, "rule 11: " + m);
            }
        }
    }

    private static void words(String bare) {
        String[] none = {"->", "::", "finally", "synchronized", "assert", "catch", "try", "instanceof", "lambda",
            "Exact", "printStackTrace", "System.out", "System.nano", "System.current", "Random", "Thread", "volatile",
            "hashCode", "toString", "equals", "var ", "float", "double", "protected", "yield", "goto"};
        for (String word : none) {
            Matcher m = Pattern.compile(word.matches("\\w+") ? "\\b" + word + "\\b" : Pattern.quote(word)).matcher(bare);
            due(!m.find(), "the text has " + word);
        }
        Matcher imports = Pattern.compile("import ([\\w.*]+);").matcher(bare);
        while (imports.find()) due(imports.group(1).equals("java.util.NoSuchElementException"), "rule 4: " + imports.group());
        Matcher thrown = Pattern.compile("\\bthrow\\b(?! new (NoSuchElement|IllegalArgument|IllegalState)Exception\\(\"\"\\);)")
                .matcher(bare);
        due(!thrown.find(), "rule 6: a throw");
        due(!Pattern.compile("\"\\s*\\+|\\+\\s*\"").matcher(bare).find(), "rule 10: + of texts");
        due(!Pattern.compile("static\\s*\\{").matcher(bare).find(), "rule 5: a static block");
        for (int i = 0; i < bare.length(); i++) due(bare.charAt(i) < 128, "a sign beyond 127 at " + i);
    }

    private static void lengths(String bare) {
        String[] lines = bare.split("\n", -1);
        Pattern head = Pattern.compile("^( {4}| {8})[a-zA-Z].*\\(.*\\).*\\{$|^ {12}throws .*\\{$");
        for (int i = 0; i < lines.length; i++) {
            if (!head.matcher(lines[i]).matches()) continue;
            String indent = lines[i].startsWith("            ") ? "    " : lines[i].replaceAll("[^ ].*", "");
            int end = i;
            while (end < lines.length && !lines[end].equals(indent + "}")) end++;
            due(end - i <= 60, "rule 11: " + (end - i) + " lines from line " + lines[i].trim());
        }
    }
}
