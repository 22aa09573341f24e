import java.io.IOException;
import java.lang.reflect.Constructor;
import java.lang.reflect.Field;
import java.lang.reflect.Method;
import java.lang.reflect.Modifier;
import java.nio.charset.StandardCharsets;
import java.nio.file.Files;
import java.nio.file.Path;
import java.util.Arrays;
import java.util.HashMap;
import java.util.HashSet;
import java.util.Map;
import java.util.Set;
import java.util.TreeSet;
import java.util.regex.Matcher;
import java.util.regex.Pattern;

/** What of LANGUAGE.md a machine can see: the face by reflection, the rest in the source's lines. */
public final class LanguageTest {
    private static final String[] FACE = {
        "int feed(long)", "int end(int)", "int text()", "int fault()", "int rule(int)", "int game(int,int)",
        "int of(int,int)", "int ends(int,int)", "int table(int,int)", "int may(int,int)", "int out(int)",
        "int chooses(int,int)", "int pay(int,int)", "long worth(int,int)", "long worthIf(int,int,boolean,int)",
        "int wants(int)", "int lose(int,int)", "long odds(int,int,int)", "int play(int)", "long played(int,int)",
        "int pays(int)", "int years(int,int,int)", "long thumbs(int,int,int)", "int fine(int,int)",
        "int sheet(int,int,int)", "int lay(int,int,int)", "int read(int,int,int,int,int)", "int torn()",
        "int count(int)"};
    private static final String[] FORBIDDEN = {"throw", "throws", "try", "catch", "synchronized", "assert", "import",
        "package", "protected", "volatile", "native", "Object", "System", "Random", "Thread", "var", "double", "float"};
    private static int wrong = 0;

    private static void must(boolean holds, String rule) {
        if (!holds) {
            wrong++;
            System.out.println("not kept: " + rule);
        }
    }

    private static String signature(Method m) {
        StringBuilder types = new StringBuilder();
        for (Class<?> p : m.getParameterTypes()) {
            types.append(types.length() == 0 ? "" : ",").append(p.getSimpleName());
        }
        return m.getReturnType().getSimpleName() + " " + m.getName() + "(" + types + ")";
    }

    private static void face() {
        Set<String> found = new TreeSet<>(), names = new TreeSet<>();
        for (Method m : LosingLeague.class.getDeclaredMethods()) {
            if (Modifier.isPublic(m.getModifiers())) {
                found.add(signature(m));
                names.add(m.getName());
            }
        }
        must(found.equals(new TreeSet<>(Arrays.asList(FACE))), "1: the public methods are the document's: " + found);
        for (Method m : LosingLeague.class.getDeclaredMethods()) {
            int mod = m.getModifiers();
            must(Modifier.isPublic(mod) || Modifier.isPrivate(mod) || m.isSynthetic(), "1: " + m + " is seen from outside");
            must(Modifier.isPublic(mod) || !names.contains(m.getName()), "1: " + m + " bears a public name");
        }
        Set<String> constants = new TreeSet<>();
        for (Field f : LosingLeague.class.getDeclaredFields()) {
            int mod = f.getModifiers();
            must(Modifier.isPublic(mod) || Modifier.isPrivate(mod), "1: " + f + " is seen from outside");
            must(!Modifier.isStatic(mod) || Modifier.isFinal(mod), "5: " + f + " is not final");
            if (Modifier.isPublic(mod)) constants.add(f.getName());
        }
        must(constants.equals(new TreeSet<>(Arrays.asList("BAD", "STATE", "FULL", "NONE"))), "1: the constants");
        Constructor<?>[] made = LosingLeague.class.getDeclaredConstructors();
        must(made.length == 1 && Modifier.isPublic(made[0].getModifiers()) && made[0].getParameterCount() == 0,
            "1: one public constructor");
        must(Modifier.isFinal(LosingLeague.class.getModifiers()), "1: the class is final");
    }

    private static void inside() {
        Class<?>[] classes = LosingLeague.class.getDeclaredClasses();
        must(classes.length < 12, "11: some twelve classes");
        for (Class<?> c : classes) {
            must(Modifier.isStatic(c.getModifiers()), "2: " + c + " is not static");
            int fields = 0;
            for (Field f : c.getDeclaredFields()) {
                if (!Modifier.isStatic(f.getModifiers())) fields++;
            }
            must(fields <= 20, "11: " + c + " has " + fields + " fields");
            for (Method m : c.getDeclaredMethods()) {
                must(m.getParameterCount() <= 7, "11: " + m + " takes more than seven");
                must(Arrays.stream(FACE).noneMatch(f -> f.contains(" " + m.getName() + "(")), "1: " + m + " bears a public name");
            }
        }
    }

    /** Comments and texts are taken out, so that words in them do not count. */
    private static String bare(String source) {
        String noComments = source.replaceAll("(?s)/\\*.*?\\*/", "").replaceAll("//[^\n]*", "");
        return noComments.replaceAll("\"[^\"\n]*\"", "\"\"");
    }

    private static void words(String source) {
        for (String word : FORBIDDEN) {
            must(!Pattern.compile("\\b" + word + "\\b").matcher(source).find(), "the word " + word);
        }
        must(!source.contains("->") && !source.contains("::"), "2: no lambda, no method reference");
        must(source.chars().allMatch(c -> c < 127 && (c >= 32 || c == '\n')), "4: plain signs alone");
        for (String loop : new String[] {"while \\(true\\)", "for \\(;;", "do \\{"}) {
            must(!Pattern.compile(loop).matcher(source).find(), "9: every loop shows its end");
        }
    }

    /** A method's name with its lines; those that two classes have under one name stand together. */
    private static Map<String, String> methods(String source) {
        Map<String, String> bodies = new HashMap<>();
        String[] lines = source.split("\n");
        Pattern head = Pattern.compile("^( {4}| {8})(?!.*\\b(class|new|return|else|if|for|while|switch)\\b)[a-z][^(]*?(\\w+)\\(.*\\) \\{$");
        for (int i = 0; i < lines.length; i++) {
            Matcher m = head.matcher(lines[i]);
            if (!m.matches()) continue;
            StringBuilder body = new StringBuilder();
            int end = i + 1;
            for (; end < lines.length && !lines[end].equals(m.group(1) + "}"); end++) body.append(lines[end]).append('\n');
            must(end - i <= 60, "11: a method of " + (end - i) + " lines: " + lines[i].trim());
            bodies.merge(m.group(3), body.toString(), String::concat);
        }
        return bodies;
    }

    /** How many calls stand open at once, from a method on. */
    private static int depth(Map<String, String> bodies, String name, Set<String> above) {
        if (!above.add(name)) {
            must(false, "8: " + name + " calls itself, and its depth is not looked at here");
            return 0;
        }
        int deepest = 0;
        Matcher call = Pattern.compile("(\\w+)\\(").matcher(bodies.get(name));
        while (call.find()) {
            if (bodies.containsKey(call.group(1))) deepest = Math.max(deepest, depth(bodies, call.group(1), above));
        }
        above.remove(name);
        return 1 + deepest;
    }

    private static void depths(Map<String, String> bodies) {
        must(bodies.size() > FACE.length * 2, "the methods are found in the source: " + bodies.keySet());
        for (String face : FACE) {
            String name = face.replaceAll("^\\w+ |\\(.*", "");
            must(bodies.containsKey(name), name + " is found in the source");
            if (bodies.containsKey(name)) {
                int deep = depth(bodies, name, new HashSet<>());
                must(deep <= 8, "11: " + name + " goes " + deep + " deep");
            }
        }
    }

    /** Nothing is made behind the constructor, so that a run's room is its objects' alone. */
    private static void made(String source) {
        for (String line : source.split("\n")) {
            boolean field = line.matches(" +(private )?final \\w+(\\[\\])? \\w+ = new .*;");
            boolean constructor = line.trim().equals("sheets[k] = new Sheet();");
            must(!line.matches(".*\\bnew\\b.*") || field || constructor, "12: made by a call: " + line.trim());
        }
    }

    public static void main(String[] args) throws IOException {
        String source = new String(Files.readAllBytes(Path.of("src/main/java/LosingLeague.java")), StandardCharsets.UTF_8);
        face();
        inside();
        words(bare(source));
        depths(methods(bare(source)));
        made(bare(source));
        System.out.println(wrong == 0 ? "the language is kept" : wrong + " rules are not kept");
        if (wrong != 0) {
            System.exit(1);
        }
    }
}
