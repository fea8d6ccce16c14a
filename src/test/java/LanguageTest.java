import java.io.IOException;
import java.lang.reflect.Constructor;
import java.lang.reflect.Field;
import java.lang.reflect.Method;
import java.lang.reflect.Modifier;
import java.nio.file.Files;
import java.nio.file.Path;
import java.util.Arrays;
import java.util.HashSet;
import java.util.Set;
import java.util.TreeSet;
import java.util.regex.Matcher;
import java.util.regex.Pattern;

/** The rules of LANGUAGE.md that can be seen from the class and from its text. */
public final class LanguageTest {
    private static final String FACE = "slope(int,int,int,int)int row(int,int,int)int even(int,int,int)int "
            + "ring(int,int)int cut(int,int,int,int,int)int points(int)int drop(int)int count(int)int "
            + "whole(int,int)int against(int,int,int)int quotient(int,int)int nearer(int,int)int "
            + "within(int,int,int,int)int digit(int,int,int)int line(int,int)int kind(int)int step(int,int)int "
            + "sum(int,int)int isEven(int,int,int)int clash(int,int,int,int)int range(int,int,int,int)int "
            + "parts(int,int,int)int gaps(int,int)int gap(int,int,int,int)int follows(int,int,int)int "
            + "share(int,int)int spread(int,int)long turning(long,int)int wins(int,int)int takes(int,int)int "
            + "act(int,int,int)int trace(int)int sheet(int,int,int)int cell(int,int,int)int forge(int,int,int)int "
            + "status()int";
    private static final String[] FORBIDDEN = {"throw", "throws", "try", "catch", "finally", "synchronized", "assert",
        "import", "package", "protected", "native", "transient", "volatile", "strictfp", "equals", "hashCode",
        "toString", "record", "sqrt", "random", "System", "Thread", "var"};
    private final Checks checks = new Checks();

    public static void main(String[] args) throws IOException {
        LanguageTest test = new LanguageTest();
        test.face();
        test.classes();
        test.text();
        test.checks.end();
    }

    private void face() {
        Class<?> face = EvenSteps.class;
        checks.holds("final", Modifier.isFinal(face.getModifiers()));
        Set<String> names = new TreeSet<>();
        Set<String> told = new TreeSet<>();
        for (Method method : face.getDeclaredMethods()) {
            if (Modifier.isPublic(method.getModifiers())) {
                names.add(method.getName());
                told.add(signature(method));
            } else if (!method.isSynthetic()) {
                checks.holds(method + " is private", Modifier.isPrivate(method.getModifiers()));
            }
        }
        checks.holds("the face is " + told, told.equals(new TreeSet<>(Arrays.asList(FACE.split(" ")))));
        for (Class<?> inside : allClasses()) {
            for (Method method : inside.getDeclaredMethods()) {
                checks.holds(method + " bears no public name",
                        Modifier.isPublic(method.getModifiers()) || !names.contains(method.getName()));
                checks.holds(method + " has few parameters", method.getParameterCount() <= 7);
            }
            for (Constructor<?> made : inside.getDeclaredConstructors()) {
                checks.holds(made + " has few parameters", made.getParameterCount() <= 7);
            }
        }
        for (Field field : face.getDeclaredFields()) {
            boolean constant = field.getName().equals("NO") || field.getName().equals("NONE");
            checks.holds(field + " is private", Modifier.isPrivate(field.getModifiers()) != constant);
        }
        checks.same("constructors", face.getDeclaredConstructors().length, 1);
        checks.same("public constructors", face.getConstructors().length, 1);
    }

    private static String signature(Method method) {
        StringBuilder all = new StringBuilder(method.getName()).append('(');
        for (Class<?> type : method.getParameterTypes()) {
            all.append(all.charAt(all.length() - 1) == '(' ? "" : ",").append(type.getName());
        }
        return all.append(')').append(method.getReturnType().getName()).toString();
    }

    private static Set<Class<?>> allClasses() {
        Set<Class<?>> all = new HashSet<>(Arrays.asList(EvenSteps.class.getDeclaredClasses()));
        all.add(EvenSteps.class);
        return all;
    }

    private void classes() {
        checks.holds("classes", allClasses().size() <= 12);
        for (Class<?> inside : allClasses()) {
            int fields = 0;
            for (Field field : inside.getDeclaredFields()) {
                if (Modifier.isStatic(field.getModifiers())) {
                    checks.holds(field + " is final", Modifier.isFinal(field.getModifiers()));
                    checks.holds(field + " is plain", field.getType().isPrimitive());
                } else {
                    fields++;
                }
            }
            checks.holds(inside + " has few fields", fields <= 20);
            int within = inside == EvenSteps.class ? 0 : inside.getDeclaredClasses().length;
            checks.same(inside + " holds classes", within, 0);
            if (inside != EvenSteps.class) {
                checks.holds(inside + " is static", Modifier.isStatic(inside.getModifiers()));
                checks.holds(inside + " is not public", !Modifier.isPublic(inside.getModifiers()));
            }
        }
    }

    private void text() throws IOException {
        String text = Files.readString(Path.of("src/main/java/EvenSteps.java"));
        String code = text.replaceAll("(?s)/\\*.*?\\*/", "").replaceAll("//[^\n]*", "");
        for (String word : FORBIDDEN) {
            checks.holds("no " + word, !Pattern.compile("\\b" + word + "\\b").matcher(code).find());
        }
        for (String sign : new String[] {"->", "::", "\"", "Exact(", "@", "double", "float"}) {
            checks.holds("no " + sign, !code.contains(sign));
        }
        checks.holds("ASCII alone", text.chars().allMatch(c -> c == '\n' || c >= 32 && c < 127));
        Matcher library = Pattern.compile("\\b(Math|Long|Integer)\\.(\\w+)").matcher(code);
        Set<String> used = new TreeSet<>();
        while (library.find()) {
            used.add(library.group(1) + "." + library.group(2));
        }
        checks.holds("the library: " + used, new TreeSet<>(Arrays.asList("Math.abs", "Math.floorDiv", "Math.floorMod",
                "Math.max", "Math.min", "Long.bitCount", "Long.numberOfLeadingZeros")).containsAll(used));
        methodLengths(text);
    }

    /** A method ends at the brace that stands as far in as its first line. */
    private void methodLengths(String text) {
        String[] lines = text.split("\n");
        for (int i = 0; i < lines.length; i++) {
            String indent = lines[i].substring(0, lines[i].length() - lines[i].stripLeading().length());
            if (lines[i].endsWith(") {") && (indent.length() == 4 || indent.length() == 8)) {
                int end = i;
                while (end < lines.length - 1 && !lines[end].equals(indent + "}")) {
                    end++;
                }
                checks.holds("line " + (i + 1) + ": it is short", end - i <= 60);
            }
        }
    }
}
