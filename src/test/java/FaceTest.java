import java.io.IOException;
import java.lang.reflect.Constructor;
import java.lang.reflect.Field;
import java.lang.reflect.Method;
import java.lang.reflect.Modifier;
import java.nio.file.Files;
import java.nio.file.Path;
import java.util.Arrays;
import java.util.Set;
import java.util.TreeSet;
import java.util.regex.Matcher;
import java.util.regex.Pattern;

/** The face is the document's, and the file keeps to what LANGUAGE.md lets one see from outside. */
public final class FaceTest {
    private static final String[] FACE = {
        "int feed(int,int,int,int,int)", "boolean end(int)",
        "int phone(int,int,int,int) IndexOutOfBounds IllegalArgument UnsupportedOperation IllegalState",
        "int move(int,int,int,int) IndexOutOfBounds IllegalArgument", "int rules() IllegalArgument IllegalState",
        "int fault()", "int say(int,int,int,int,int,int,int) IndexOutOfBounds IllegalArgument UnsupportedOperation",
        "int undo(int,int,int) IndexOutOfBounds IllegalArgument UnsupportedOperation", "int ticks(int) IllegalArgument",
        "int look(int,int) IndexOutOfBounds NoSuchElement", "int copy(int,int,int) IndexOutOfBounds NoSuchElement",
        "int word(int,int) IndexOutOfBounds NoSuchElement", "int had(int) IndexOutOfBounds",
        "int way(int,int) IndexOutOfBounds", "int late(int) IndexOutOfBounds", "int rumour(int) IndexOutOfBounds",
        "int sayings(int,int,boolean) IndexOutOfBounds", "void speed(int) IllegalArgument",
        "int could(int,int,int) IndexOutOfBounds IllegalArgument", "int least(int,int,boolean) IndexOutOfBounds",
        "boolean judge(int,boolean) IndexOutOfBounds", "int weight(int) IndexOutOfBounds",
        "int sure(int,int) IndexOutOfBounds", "int describe(int,int,int) IllegalArgument",
        "void apart(int) IllegalArgument", "int heaps(int) NoSuchElement", "int heap(int) IndexOutOfBounds",
        "int stones(int,int,int,int,int) IndexOutOfBounds IllegalArgument UnsupportedOperation",
        "int gang(int,int) IndexOutOfBounds IllegalArgument UnsupportedOperation",
        "int saved(int,int) IndexOutOfBounds", "int send(int) IndexOutOfBounds",
        "boolean hide(int,boolean) IndexOutOfBounds", "int ask(int,boolean) IndexOutOfBounds",
        "int far(int,int) IndexOutOfBounds IllegalArgument", "int would(int) IndexOutOfBounds IllegalArgument",
        "int tear(int,int) NoSuchElement", "int check()", "void image()", "boolean back()", "int count(int)"};

    private static int wrong = 0;

    public static void main(String[] args) throws IOException {
        face();
        nested();
        source();
        System.out.println(wrong == 0 ? "the face is the document's" : wrong + " things are wrong with the face");
        if (wrong != 0) {
            System.exit(1);
        }
    }

    private static void must(boolean good, String what) {
        if (!good) {
            wrong++;
            System.out.println(what);
        }
    }

    private static void face() {
        must(Modifier.isFinal(QuakeNet.class.getModifiers()), "the class is not final");
        Set<String> due = new TreeSet<>(Arrays.asList(FACE));
        Set<String> got = new TreeSet<>();
        for (Method m : QuakeNet.class.getDeclaredMethods()) {
            if (Modifier.isPublic(m.getModifiers())) {
                got.add(written(m));
            } else {
                must(Modifier.isPrivate(m.getModifiers()), "not private: " + m);
                must(due.stream().noneMatch(d -> d.contains(" " + m.getName() + "(")), "named as a public one: " + m);
            }
        }
        must(got.equals(due), "the face is " + got);
        for (Constructor<?> c : QuakeNet.class.getDeclaredConstructors()) {
            must(Modifier.isPublic(c.getModifiers()) && c.getParameterCount() == 0, "a constructor too many: " + c);
        }
        for (Field f : QuakeNet.class.getDeclaredFields()) {
            must(Modifier.isPrivate(f.getModifiers()) || f.getName().equals("NONE"), "not private: " + f);
        }
        must(QuakeNet.NONE == -1, "NONE is not -1");
    }

    private static String written(Method m) {
        StringBuilder text = new StringBuilder(m.getReturnType().getName() + " " + m.getName() + "(");
        for (Class<?> p : m.getParameterTypes()) {
            text.append(text.charAt(text.length() - 1) == '(' ? "" : ",").append(p.getName());
        }
        text.append(")");
        for (Class<?> e : m.getExceptionTypes()) {
            text.append(" ").append(e.getSimpleName().replace("Exception", ""));
        }
        return text.toString();
    }

    private static void nested() {
        must(QuakeNet.class.getDeclaredClasses().length <= 11, "more than twelve classes");
        for (Class<?> c : QuakeNet.class.getDeclaredClasses()) {
            must(Modifier.isStatic(c.getModifiers()) && Modifier.isPrivate(c.getModifiers()), "not private static: " + c);
            for (Field f : c.getDeclaredFields()) {
                must(!Modifier.isStatic(f.getModifiers()) || Modifier.isFinal(f.getModifiers()), "static, not final: " + f);
            }
            long fields = Arrays.stream(c.getDeclaredFields()).filter(f -> !Modifier.isStatic(f.getModifiers())).count();
            must(fields <= 20, "more than twenty fields: " + c);
            for (Method m : c.getDeclaredMethods()) {
                must(m.getParameterCount() <= 7, "more than seven parameters: " + m);
                must(Arrays.stream(FACE).noneMatch(d -> d.contains(" " + m.getName() + "(")), "named as a public one: " + m);
            }
        }
    }

    private static void source() throws IOException {
        String text = Files.readString(Path.of("src/main/java/QuakeNet.java"));
        String code = text.replaceAll("(?s)/\\*.*?\\*/", "").replaceAll("//.*", "");
        Matcher odd = Pattern.compile("->|::|\\b(try|catch|finally|synchronized|assert|package|var|yield)\\b").matcher(code);
        must(!odd.find(), "not for this file: " + (odd.reset().find() ? odd.group() : ""));
        Matcher imports = Pattern.compile("import ([^;]*);").matcher(code);
        while (imports.find()) {
            must(Set.of("java.util.Arrays", "java.util.NoSuchElementException").contains(imports.group(1)),
                    "not for this file: " + imports.group());
        }
        int lines = 0;
        String name = "";
        for (String line : text.split("\n")) {
            if (line.matches("( {4}| {8})(?! )[^=]*\\(.*|( {4}| {8})(public|private|static|final).*\\{")) {
                lines = 0;
                name = line;
            }
            lines++;
            must(lines <= 60 || !name.contains("("), "longer than sixty lines: " + name);
        }
    }
}
