import java.io.IOException;
import java.lang.reflect.Constructor;
import java.lang.reflect.Field;
import java.lang.reflect.Method;
import java.lang.reflect.Modifier;
import java.nio.charset.StandardCharsets;
import java.nio.file.Files;
import java.nio.file.Path;
import java.util.ArrayList;
import java.util.Arrays;
import java.util.List;
import java.util.Set;
import java.util.TreeSet;
import java.util.regex.Matcher;
import java.util.regex.Pattern;

/**
 * Compares the public face with that of the document and looks for what LANGUAGE.md rules out, as
 * far as a plain look at the members and the source can tell. Runs in the folder of the project.
 */
public final class FaceTest {
    private static final Path SOURCE = Path.of("src/main/java/IconSetBuilder.java");
    private static final Path DOCUMENT = Path.of("../shared/DOC.md");
    private static final String[] RULED_OUT = {
        "->", "::", "\\btry\\b", "\\bcatch\\b", "\\bfinally\\b", "\\bsynchronized\\b", "\\bassert\\b", "\\bnative\\b",
        "\\bvolatile\\b", "\\bequals\\s*\\(", "\\bhashCode\\b", "\\btoString\\b", "Exact\\s*\\(", "\\bObject\\b",
        "\\bSystem\\.(?!arraycopy)", "\\bMath\\.(?!min|max|abs|floorDiv|floorMod)", "\\bInteger\\.(?!bitCount)",
        "\\bLong\\.", "\\bwhile\\s*\\(true", "\\bfor\\s*\\(;;", "@"};

    private static int wrong = 0;

    public static void main(String[] args) throws IOException {
        membersAreThoseOfTheDocument();
        signaturesAreThoseOfTheDocument();
        sourceTellsTheFaceInOrder();
        constantsHaveTheirValues();
        insideClassesAreHidden();
        sourceKeepsToTheRules();
        methodsAreShort();
        System.out.println(wrong == 0 ? "FaceTest: the face and the rules are kept" : "FaceTest: " + wrong + " faults");
        if (wrong != 0) {
            System.exit(1);
        }
    }

    private static void check(boolean right, String told) {
        if (!right) {
            wrong++;
            System.out.println(told);
        }
    }

    private static String document() throws IOException {
        return Files.readString(DOCUMENT, StandardCharsets.UTF_8);
    }

    private static String face() throws IOException {
        String document = document();
        int from = document.indexOf("public final class IconSetBuilder {");
        return document.substring(from, document.indexOf("```", from));
    }

    private static void membersAreThoseOfTheDocument() throws IOException {
        check(Modifier.isPublic(IconSetBuilder.class.getModifiers()), "the class is not public");
        check(Modifier.isFinal(IconSetBuilder.class.getModifiers()), "the class is not final");
        Set<String> publicNames = new TreeSet<>();
        for (Method method : IconSetBuilder.class.getDeclaredMethods()) {
            if (Modifier.isPublic(method.getModifiers())) {
                check(publicNames.add(method.getName()), "two methods are called " + method.getName());
            }
        }
        for (Method method : IconSetBuilder.class.getDeclaredMethods()) {
            boolean hidden = Modifier.isPrivate(method.getModifiers()) || method.isSynthetic();
            check(Modifier.isPublic(method.getModifiers()) || hidden, method + " is neither public nor private");
            check(!hidden || !publicNames.contains(method.getName()), method + " bears a public name");
        }
        for (Field field : IconSetBuilder.class.getDeclaredFields()) {
            boolean constant = face().contains("int " + field.getName() + " = ");
            check(constant ? Modifier.isPublic(field.getModifiers()) : Modifier.isPrivate(field.getModifiers()),
                    field + " is neither private nor a constant of the document");
            check(!Modifier.isStatic(field.getModifiers()) || Modifier.isFinal(field.getModifiers()), field + " is not final");
        }
        Constructor<?>[] constructors = IconSetBuilder.class.getDeclaredConstructors();
        check(constructors.length == 1 && Modifier.isPublic(constructors[0].getModifiers()), "there are other constructors");
    }

    private static void signaturesAreThoseOfTheDocument() throws IOException {
        Set<String> due = new TreeSet<>();
        Matcher matcher = Pattern.compile("public (int|boolean) (\\w+)\\(([^)]*)\\)(?: throws ([^;]*))?;").matcher(face());
        while (matcher.find()) {
            List<String> types = new ArrayList<>();
            for (String argument : matcher.group(3).split(", ")) {
                types.add(argument.split(" ")[0]);
            }
            String exceptions = matcher.group(4) == null ? "" : matcher.group(4);
            due.add(matcher.group(1) + " " + matcher.group(2) + types + exceptions);
        }
        Set<String> got = new TreeSet<>();
        for (Method method : IconSetBuilder.class.getDeclaredMethods()) {
            if (Modifier.isPublic(method.getModifiers())) {
                List<String> types = new ArrayList<>();
                Arrays.stream(method.getParameterTypes()).forEach(type -> types.add(type.getName()));
                List<String> exceptions = new ArrayList<>();
                Arrays.stream(method.getExceptionTypes()).forEach(type -> exceptions.add(type.getSimpleName()));
                String arguments = types.isEmpty() ? "[]" : types.toString();
                got.add(method.getReturnType() + " " + method.getName() + arguments + String.join(", ", exceptions));
            }
        }
        check(due.size() == 35, "the document's face was not read: " + due.size() + " methods");
        check(due.equals(got), "the face is\n" + got + "\nbut due is\n" + due);
    }

    /** The class line, constants, constructor and methods, each with its names and exceptions, as in the document. */
    private static void sourceTellsTheFaceInOrder() throws IOException {
        List<String> due = publicLines(face());
        List<String> got = publicLines(code());
        check(due.size() == 41, "the document's face was not read: " + due.size() + " lines");
        for (int line = 0; line < Math.max(due.size(), got.size()); line++) {
            String dueLine = line < due.size() ? due.get(line) : "nothing";
            String gotLine = line < got.size() ? got.get(line) : "nothing";
            check(dueLine.equals(gotLine), "the source tells " + gotLine + "\nbut due is " + dueLine);
        }
        check(document().contains("import java.util.NoSuchElementException;\n\npublic final class IconSetBuilder {")
                && code().contains("import java.util.NoSuchElementException;"), "the import of the face is missing");
    }

    private static List<String> publicLines(String text) {
        List<String> lines = new ArrayList<>();
        Matcher matcher = Pattern.compile("\\bpublic [^;{]*").matcher(text);
        while (matcher.find()) {
            lines.add(matcher.group().replaceAll("\\s+", " ").trim());
        }
        return lines;
    }

    private static void constantsHaveTheirValues() throws IOException {
        Matcher matcher = Pattern.compile("public static final int (\\w+) = (-?\\d+);").matcher(face());
        int found = 0;
        while (matcher.find()) {
            found++;
            try {
                int value = IconSetBuilder.class.getField(matcher.group(1)).getInt(null);
                check(value == Integer.parseInt(matcher.group(2)), matcher.group(1) + " is " + value);
            } catch (ReflectiveOperationException e) {
                check(false, "the constant " + matcher.group(1) + " is missing");
            }
        }
        check(found == 4, "the document's constants were not read");
    }

    private static void insideClassesAreHidden() {
        Class<?>[] inside = IconSetBuilder.class.getDeclaredClasses();
        check(inside.length < 12, "there are " + inside.length + " classes inside");
        for (Class<?> one : inside) {
            check(Modifier.isStatic(one.getModifiers()) && !Modifier.isPublic(one.getModifiers()), one + " is not hidden");
            int fields = 0;
            for (Field field : one.getDeclaredFields()) {
                boolean constant = Modifier.isStatic(field.getModifiers());
                fields += constant ? 0 : 1;
                check(!constant || Modifier.isFinal(field.getModifiers()), field + " is not final");
            }
            check(fields <= 20, one + " has " + fields + " fields");
            for (Method method : one.getDeclaredMethods()) {
                check(!isFaceName(method.getName()), method + " bears a public name");
                check(!Modifier.isPublic(method.getModifiers()), method + " is public");
            }
        }
    }

    private static boolean isFaceName(String name) {
        return Arrays.stream(IconSetBuilder.class.getDeclaredMethods())
                .anyMatch(method -> Modifier.isPublic(method.getModifiers()) && method.getName().equals(name));
    }

    /** The source without comments and without the contents of texts. */
    private static String code() throws IOException {
        String source = Files.readString(SOURCE, StandardCharsets.US_ASCII);
        return source.replaceAll("(?s)/\\*.*?\\*/", "").replaceAll("//[^\n]*", "").replaceAll("\"[^\"\n]*\"", "\"\"");
    }

    private static void sourceKeepsToTheRules() throws IOException {
        String code = code();
        for (String ruledOut : RULED_OUT) {
            Matcher matcher = Pattern.compile(ruledOut).matcher(code);
            check(!matcher.find(), "the source has " + ruledOut);
        }
        Matcher imports = Pattern.compile("import [^;]*;").matcher(code);
        while (imports.find()) {
            check(imports.group().equals("import java.util.NoSuchElementException;"), imports.group() + " is not due");
        }
        check(!Pattern.compile("\\bpackage\\b").matcher(code).find(), "there is a package line");
        check(!Pattern.compile("\"\"\\s*\\+|\\+\\s*\"\"").matcher(code).find(), "texts are joined by +");
    }

    private static void methodsAreShort() throws IOException {
        int start = 0;
        int line = 0;
        String indent = null;
        for (String text : code().split("\n")) {
            line++;
            Matcher head = Pattern.compile("( {4}| {8})(?! )[^=]*\\).*\\{").matcher(text);
            if (indent == null && head.matches()) {
                indent = head.group(1);
                start = line;
            }
            if (indent != null && text.equals(indent + "}")) {
                check(line - start < 60, "the method that ends in line " + line + " is too long");
                indent = null;
            }
        }
        check(line > 500, "the source was not read");
    }
}
