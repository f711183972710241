import java.lang.reflect.Constructor;
import java.lang.reflect.Field;
import java.lang.reflect.Method;
import java.lang.reflect.Modifier;
import java.nio.file.Files;
import java.nio.file.Path;
import java.util.Arrays;
import java.util.HashSet;
import java.util.List;
import java.util.Set;
import java.util.TreeSet;
import java.util.regex.Matcher;
import java.util.regex.Pattern;

/** The face of the class, and those of LANGUAGE.md's rules that a look at the text can tell. */
public final class LanguageRules {
    private static final String FACE = """
        AnswerDoor()
        boolean helper(int,int,int,int,int,int)
        int down(int,int,int)
        boolean type(int,int,int,int)
        boolean field(int,int,int,int,int,boolean)
        boolean thing(int,int,boolean)
        boolean number(int,int,int,int)
        boolean key(int,int,int,int)
        boolean row(int,int,int,int,int)
        boolean asker(int,int,int,int)
        int pass(int)
        int feed(int,int,int,int,int)
        int end(int)
        int ask(int,int,int,int)
        int cost(int)
        int dear()
        int answer(int)
        int call(int,int)
        int breaker(int,int)
        int kept(int,int)
        int count(int)
        int NONE""";

    private static int wrong = 0;

    private static void must(String rule, boolean holds) {
        if (!holds) {
            wrong++;
            System.out.println("broken: " + rule);
        }
    }

    private static String list(Class<?>[] types) {
        return "(" + String.join(",", Arrays.stream(types).map(Class::getName).toList()) + ")";
    }

    private static void face() {
        Class<?> door = AnswerDoor.class;
        Set<String> open = new TreeSet<>();
        Set<String> publicNames = new HashSet<>();
        for (Constructor<?> c : door.getDeclaredConstructors()) {
            open.add("AnswerDoor" + list(c.getParameterTypes()));
        }
        for (Method m : door.getDeclaredMethods()) {
            if (!Modifier.isPrivate(m.getModifiers())) {
                open.add(m.getReturnType().getName() + " " + m.getName() + list(m.getParameterTypes()));
                publicNames.add(m.getName());
                must("public " + m.getName(), Modifier.isPublic(m.getModifiers()));
            }
        }
        for (Field f : door.getDeclaredFields()) {
            int how = f.getModifiers();
            if (!Modifier.isPrivate(how)) {
                open.add(f.getType().getName() + " " + f.getName());
            }
            must("final static " + f.getName(), !Modifier.isStatic(how) || Modifier.isFinal(how));
        }
        Set<String> due = new TreeSet<>(List.of(FACE.split("\n")));
        must("the face is " + due + ", not " + open, due.equals(open));
        must("public and final", Modifier.isPublic(door.getModifiers()) && Modifier.isFinal(door.getModifiers()));
        must("twelve classes", door.getDeclaredClasses().length < 12);
        privateNames(door, publicNames);
        for (Class<?> inside : door.getDeclaredClasses()) {
            must(inside + " is static", Modifier.isStatic(inside.getModifiers()));
            must(inside + " is not public", !Modifier.isPublic(inside.getModifiers()));
            must(inside + " has some twenty fields", inside.getDeclaredFields().length <= 20);
            privateNames(inside, publicNames);
        }
    }

    private static void privateNames(Class<?> of, Set<String> publicNames) {
        for (Method m : of.getDeclaredMethods()) {
            boolean isFace = of == AnswerDoor.class && Modifier.isPublic(m.getModifiers());
            must(of.getName() + "." + m.getName() + " bears a public name", isFace || !publicNames.contains(m.getName()));
            must(m + " takes seven at most", m.getParameterCount() <= 7);
        }
    }

    private static void text(String source) {
        String code = source.replaceAll("(?s)/\\*.*?\\*/", "").replaceAll("//[^\n]*", "");
        String[] words = {"throw", "throws", "try", "catch", "finally", "synchronized", "assert", "package", "var",
            "native", "volatile", "transient", "Object", "Exception", "hashCode", "Exact", "System", "Random"};
        for (String word : words) {
            must("no " + word, !Pattern.compile("\\b" + word + "\\b").matcher(code).find());
        }
        must("no lambda", !code.contains("->"));
        must("no method reference", !code.contains("::"));
        must("no text", code.indexOf('"') < 0);
        must("no endless loop", !Pattern.compile("while \\(true\\)|for \\(;").matcher(code).find());
        Matcher imports = Pattern.compile("import ([\\w.*]+);").matcher(code);
        while (imports.find()) {
            must("no import of " + imports.group(1), imports.group(1).equals("java.util.Arrays"));
        }
        Matcher library = Pattern.compile("\\bArrays\\.(\\w+)").matcher(code);
        while (library.find()) {
            must("no Arrays." + library.group(1), library.group(1).equals("fill"));
        }
        shortMethods(code);
    }

    /** Methods are told by how far their first line stands to the right, and end there. */
    private static void shortMethods(String code) {
        String[] lines = code.split("\n");
        for (int i = 0; i < lines.length; i++) {
            Matcher head = Pattern.compile("^( {4}| {8})(?! )(?!.*\\bclass\\b).*\\(.*").matcher(lines[i]);
            if (head.find() && !lines[i].endsWith(";")) {
                int end = i;
                while (end < lines.length && !lines[end].equals(head.group(1) + "}")) {
                    end++;
                }
                must("short method: " + lines[i].trim(), end - i <= 60);
            }
        }
    }

    public static void main(String[] args) throws Exception {
        face();
        text(Files.readString(Path.of("src/main/java/AnswerDoor.java")));
        System.out.println(wrong == 0 ? "the rules looked at are kept" : wrong + " rules are broken");
        if (wrong != 0) {
            System.exit(1);
        }
    }
}
