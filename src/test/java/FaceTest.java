import java.lang.reflect.Constructor;
import java.lang.reflect.Field;
import java.lang.reflect.Method;
import java.lang.reflect.Modifier;
import java.nio.file.Files;
import java.nio.file.Path;
import java.util.Arrays;
import java.util.Set;
import java.util.TreeSet;
import java.util.regex.Matcher;
import java.util.regex.Pattern;

/** The public face of the document, and those rules of LANGUAGE.md that can be seen from outside or by words. */
public final class FaceTest {
    private static final String[] FACE = {
        "rock(int,int)", "dig(int,int)", "ofCell(int,int)", "head(int,int,int)", "ofHead(int,int)", "delay(int)",
        "engineer(int,int)", "ofEngineer(int,int)", "change(int,int)", "become(int,int)", "as(int,int)",
        "feed(long,int)", "text(int)", "law(int,int,int,int)", "years(int)", "loose(int)", "then(int,int,int)",
        "meets()", "apart(int)", "delayFor(int)", "powerFor(int,int,int)", "needless(int)", "heard(int,int,int)",
        "which(int,int)", "join(int,int)", "steps(int,int)", "hand(int,int,int)", "parts()", "odds(int,int,int)",
        "seed(int)", "voice(int,int,int)", "trace(int)", "sheet(int,int,int)", "put(int,int,int)",
        "move(int,int,int,int,int)", "rocks(int)", "judge(int)", "image()", "restore()", "tell(int)", "check()",
        "count(int)", "told(int)",
    };
    private static final String[] BANNED = {
        "\\bthrow\\b", "\\btry\\b", "\\bcatch\\b", "\\bsynchronized\\b", "\\bassert\\b", "->", "::", "\\bpackage\\b",
        "Exact\\b", "\\bSystem\\.(?!arraycopy)", "\\bprotected\\b", "\\bvar\\b",
    };
    private static int wrong;

    public static void main(String[] args) throws Exception {
        face();
        classesInside();
        String source = Files.readString(Path.of("src/main/java/TunnelHearsay.java"));
        words(source);
        lengths(source.split("\n"));
        System.out.println(wrong == 0 ? "the face is as due" : wrong + " things of the face are not as due");
        if (wrong != 0) {
            System.exit(1);
        }
    }

    private static void due(boolean so, String what) {
        if (!so) {
            wrong++;
            System.out.println(what);
        }
    }

    private static String signature(Method method) {
        StringBuilder row = new StringBuilder(method.getName()).append('(');
        for (Class<?> type : method.getParameterTypes()) {
            row.append(row.charAt(row.length() - 1) == '(' ? "" : ",").append(type.getName());
        }
        return row.append(')').toString();
    }

    private static void face() {
        Class<?> c = TunnelHearsay.class;
        due(Modifier.isPublic(c.getModifiers()) && Modifier.isFinal(c.getModifiers()), "the class isn't public and final");
        Set<String> open = new TreeSet<>();
        Set<String> names = namesOfFace();
        for (Method method : c.getDeclaredMethods()) {
            if (Modifier.isPrivate(method.getModifiers())) {
                due(!names.contains(method.getName()), "a private method bears a public name: " + method);
            } else {
                due(Modifier.isPublic(method.getModifiers()) && method.getReturnType() == int.class
                    && !Modifier.isStatic(method.getModifiers()), "not of the face: " + method);
                open.add(signature(method));
            }
        }
        due(open.equals(new TreeSet<>(Arrays.asList(FACE))), "the face is " + open);
        for (Constructor<?> made : c.getDeclaredConstructors()) {
            due(Modifier.isPublic(made.getModifiers()) && made.getParameterCount() == 0, "another constructor: " + made);
        }
        for (Field field : c.getDeclaredFields()) {
            due(Modifier.isPrivate(field.getModifiers()), "a field that isn't private: " + field);
        }
    }

    private static Set<String> namesOfFace() {
        Set<String> names = new TreeSet<>();
        for (String row : FACE) {
            names.add(row.substring(0, row.indexOf('(')));
        }
        return names;
    }

    private static void classesInside() {
        Class<?>[] inside = TunnelHearsay.class.getDeclaredClasses();
        due(inside.length < 12, "more than twelve classes");
        for (Class<?> c : inside) {
            due(Modifier.isStatic(c.getModifiers()), c + " isn't static");
            int fields = 0;
            for (Field field : c.getDeclaredFields()) {
                boolean fixed = Modifier.isStatic(field.getModifiers());
                fields += fixed ? 0 : 1;
                due(!fixed || Modifier.isFinal(field.getModifiers()), "static state: " + field);
            }
            due(fields <= 20, c + " has more than twenty fields");
            for (Method method : c.getDeclaredMethods()) {
                due(method.getParameterCount() <= 7, "more than seven parameters: " + method);
                due(!namesOfFace().contains(method.getName()), "inside, with a public name: " + method);
            }
        }
    }

    private static void words(String source) {
        String code = source.replaceAll("(?s)/\\*.*?\\*/", "").replaceAll("//[^\n]*", "");
        for (String word : BANNED) {
            Matcher m = Pattern.compile(word).matcher(code);
            due(!m.find(), "the program has " + word);
        }
        Matcher imports = Pattern.compile("import ([^;]*);").matcher(code);
        while (imports.find()) {
            due(Set.of("java.util.Arrays").contains(imports.group(1)), "import of " + imports.group(1));
        }
        for (char sign : source.toCharArray()) {
            due(sign < 128, "a sign above 127: " + (int) sign);
        }
    }

    /** A method begins with a row that ends in ") {", and ends with the next brace that stands as far in. */
    private static void lengths(String[] rows) {
        int methods = 0;
        for (int i = 0; i < rows.length; i++) {
            Matcher head = Pattern.compile("((?: {4}){1,2})[\\w\\[\\] ]+\\([\\w\\[\\], ]*\\) \\{").matcher(rows[i]);
            if (head.matches() && !rows[i].trim().startsWith("if") && !rows[i].trim().startsWith("switch")) {
                int end = i;
                while (end < rows.length && !rows[end].equals(head.group(1) + "}")) {
                    end++;
                }
                methods++;
                due(end - i < 60, "longer than sixty rows: " + rows[i].trim());
            }
        }
        due(methods > FACE.length, "only " + methods + " methods were found in the source");
    }
}
