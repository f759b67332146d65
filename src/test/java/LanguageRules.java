import java.lang.reflect.Constructor;
import java.lang.reflect.Field;
import java.lang.reflect.Method;
import java.lang.reflect.Modifier;
import java.nio.file.Files;
import java.nio.file.Path;
import java.util.Arrays;
import java.util.Set;
import java.util.TreeSet;
import java.util.regex.Matcher;
import java.util.regex.Pattern;

/** The face of the document and the rules of LANGUAGE.md that can be seen from the text or the compiled class. */
public final class LanguageRules {
    private static final String[] FACE = {
        "int constant(int,int,int,boolean)", "int part(int,int,int,int,int)", "int check(int,int,int,int,int)",
        "int hold(int,int,int,int)", "int row(int,int)", "int item(int,int,int)", "int share(int,int)",
        "int give(int,long,int)", "int make(int,int,int)", "int about(int,int)", "long number(int,int)",
        "int take(int,int,int)", "int like(int,int)", "int write(int)", "long leaf(int)", "int set(int,long)",
        "int cut(int)", "int read(int,int)", "int cause(int)", "int status()", "int count(int)",
    };
    private static final String FORBIDDEN =
        "\\b(throw|throws|try|catch|synchronized|assert|import|package|volatile|native|hashCode|toString|float|double)\\b"
        + "|->|::|@\\w+|\\w+Exact\\b|\\bnew\\s+\\w+(\\[\\])?\\([^)]*\\)\\s*\\{|\\bstatic\\s*\\{";

    private static int wrong = 0;

    private static void due(String what, boolean holds) {
        if (!holds) {
            wrong++;
            System.out.println("rule broken: " + what);
        }
    }

    private static String withoutComments(String source) {
        return source.replaceAll("(?s)/\\*.*?\\*/", "").replaceAll("//[^\n]*", "");
    }

    private static String signature(Method m) {
        StringBuilder s = new StringBuilder(m.getReturnType().getName()).append(' ').append(m.getName()).append('(');
        Class<?>[] types = m.getParameterTypes();
        for (int i = 0; i < types.length; i++) {
            s.append(i == 0 ? "" : ",").append(types[i].getName());
        }
        return s.append(')').toString();
    }

    private static void face() {
        Class<?> c = RecordLeaves.class;
        due("1: public and final", Modifier.isPublic(c.getModifiers()) && Modifier.isFinal(c.getModifiers()));
        Set<String> visible = new TreeSet<>();
        for (Method m : c.getDeclaredMethods()) {
            if (!Modifier.isPrivate(m.getModifiers())) {
                due("1: a method that isn't public: " + m, Modifier.isPublic(m.getModifiers()));
                visible.add(signature(m));
            }
        }
        due("1: the methods of the document " + visible, visible.equals(new TreeSet<>(Arrays.asList(FACE))));
        Set<String> constants = new TreeSet<>();
        for (Field f : c.getDeclaredFields()) {
            if (!Modifier.isPrivate(f.getModifiers())) {
                int m = f.getModifiers();
                due("1: " + f, Modifier.isPublic(m) && Modifier.isStatic(m) && Modifier.isFinal(m));
                constants.add(f.getType() + " " + f.getName());
            }
        }
        due("1: the constants " + constants, constants.equals(Set.of("int BAD", "int FULL", "int NONE")));
        Constructor<?>[] made = c.getDeclaredConstructors();
        due("1: one public constructor",
            made.length == 1 && Modifier.isPublic(made[0].getModifiers()) && made[0].getParameterCount() == 0);
    }

    private static void inside() {
        Set<String> names = new TreeSet<>();
        for (String s : FACE) {
            names.add(s.substring(s.indexOf(' ') + 1, s.indexOf('(')));
        }
        Class<?>[] classes = RecordLeaves.class.getDeclaredClasses();
        due("11: at most twelve classes", classes.length + 1 <= 12);
        for (Class<?> c : classes) {
            int m = c.getModifiers();
            due("2: static, not public: " + c, Modifier.isStatic(m) && !Modifier.isPublic(m) && !Modifier.isProtected(m));
            for (Method one : c.getDeclaredMethods()) {
                due("1: a method inside with a public one's name: " + one, !names.contains(one.getName()));
                due("11: seven parameters: " + one, one.getParameterCount() <= 7);
            }
            due("11: twenty fields: " + c, c.getDeclaredFields().length <= 20);
            for (Field f : c.getDeclaredFields()) {
                due("5: " + f, !Modifier.isStatic(f.getModifiers()) || Modifier.isFinal(f.getModifiers()));
            }
        }
        for (Method one : RecordLeaves.class.getDeclaredMethods()) {
            due("1: a private method with a public one's name: " + one,
                !Modifier.isPrivate(one.getModifiers()) || !names.contains(one.getName()));
        }
    }

    private static void text(String source) {
        String code = withoutComments(source);
        Matcher m = Pattern.compile(FORBIDDEN).matcher(code);
        while (m.find()) {
            due("the text has '" + m.group() + "'", false);
        }
        Matcher calls = Pattern.compile("\\b(System|Math|Arrays|Integer|Long|String|List)\\.(\\w+)").matcher(code);
        while (calls.find()) {
            due("4: " + calls.group(), Set.of("System.arraycopy", "Math.min", "Math.max").contains(calls.group()));
        }
        for (char c : source.toCharArray()) {
            due("characters 0 to 255 alone", c < 256);
        }
        methodLengths(code.split("\n"));
    }

    private static void methodLengths(String[] lines) {
        Pattern head = Pattern.compile("^(    |        )(public|private|static|int|long|boolean|void|[A-Z]\\w*)\\b.*\\) \\{$");
        for (int i = 0; i < lines.length; i++) {
            Matcher m = head.matcher(lines[i]);
            if (m.matches()) {
                int end = i;
                while (end < lines.length && !lines[end].equals(m.group(1) + "}")) {
                    end++;
                }
                due("11: sixty lines: " + lines[i].trim(), end - i <= 60);
            }
        }
    }

    public static void main(String[] args) throws Exception {
        face();
        inside();
        text(Files.readString(Path.of(System.getProperty("root", "."), "src/main/java/RecordLeaves.java")));
        System.out.println(wrong == 0 ? "the face and the rules are kept" : wrong + " rules are broken");
        if (wrong != 0) {
            System.exit(1);
        }
    }
}
