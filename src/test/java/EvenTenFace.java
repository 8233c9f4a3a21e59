import java.io.IOException;
import java.lang.reflect.Constructor;
import java.lang.reflect.Field;
import java.lang.reflect.Method;
import java.lang.reflect.Modifier;
import java.nio.charset.StandardCharsets;
import java.nio.file.Files;
import java.nio.file.Path;
import java.util.ArrayList;
import java.util.Arrays;
import java.util.HashSet;
import java.util.List;
import java.util.Set;
import java.util.TreeSet;
import java.util.regex.Matcher;
import java.util.regex.Pattern;

/** The face of the document, and the rules of LANGUAGE.md that a program can look at. */
public final class EvenTenFace {
    private static final Set<String> FACE = Set.of(
        "int write(long,int)", "int erase()", "int fault()", "int market()", "long heap(int,int)",
        "int rest(int,int)", "int as(int,int,int,int)", "int find(int,int)", "int many(int,int)",
        "long light(int,int)", "int cheap(int,int)", "int mends(int)", "int swap(int,int)",
        "int always(int,int,int)", "int need(int,int)", "int worst(int,int,int,int)",
        "int come(int)", "int badly(int)", "int apart(int,int)", "int turns(int,int)",
        "int sale(int)", "int burn()", "int judge(int)", "int keep(int)", "int back(int)",
        "int count(int)");
    private static final Set<String> CONSTANTS = Set.of("NONE", "UNKNOWN", "OUTSIDE", "NOT", "FULL");
    private static final Path SOURCE = Path.of("src/main/java/EvenTen.java");

    private static int wrong = 0;

    private static void must(boolean holds, String what) {
        if (!holds) {
            wrong++;
            System.out.println("broken: " + what);
        }
    }

    private static String told(Method method) {
        List<String> types = new ArrayList<>();
        for (Class<?> type : method.getParameterTypes()) {
            types.add(type.getSimpleName());
        }
        return method.getReturnType().getSimpleName() + " " + method.getName()
            + "(" + String.join(",", types) + ")";
    }

    private static void face() {
        must(Modifier.isPublic(EvenTen.class.getModifiers()), "rule 1: a public class");
        must(Modifier.isFinal(EvenTen.class.getModifiers()), "rule 1: a final class");
        Set<String> methods = new TreeSet<>();
        for (Method method : EvenTen.class.getDeclaredMethods()) {
            if (Modifier.isPublic(method.getModifiers())) {
                must(!Modifier.isStatic(method.getModifiers()), method + " is no method of an object");
                methods.add(told(method));
            } else {
                must(Modifier.isPrivate(method.getModifiers()), "rule 1: " + method);
            }
        }
        must(methods.equals(FACE), "the face: " + methods);
        Set<String> constants = new TreeSet<>();
        for (Field field : EvenTen.class.getDeclaredFields()) {
            if (Modifier.isPublic(field.getModifiers())) {
                constants.add(field.getName());
            } else {
                must(Modifier.isPrivate(field.getModifiers()), "rule 1: " + field);
            }
        }
        must(constants.equals(CONSTANTS), "the constants: " + constants);
        Constructor<?>[] constructors = EvenTen.class.getDeclaredConstructors();
        must(constructors.length == 1 && constructors[0].getParameterCount() == 0
            && Modifier.isPublic(constructors[0].getModifiers()), "the constructor");
    }

    private static void classesInside() {
        Class<?>[] inside = EvenTen.class.getDeclaredClasses();
        must(inside.length <= 11, "rule 11: twelve classes");
        for (Class<?> one : inside) {
            must(Modifier.isStatic(one.getModifiers()), "rule 2: " + one + " is static");
            must(!Modifier.isPublic(one.getModifiers()) && !Modifier.isProtected(one.getModifiers()),
                "rule 1: " + one);
            must(one.getDeclaredClasses().length == 0, "no class inside " + one);
        }
        List<Class<?>> all = new ArrayList<>(Arrays.asList(inside));
        all.add(EvenTen.class);
        Set<String> names = new HashSet<>();
        for (String method : FACE) {
            names.add(method.substring(method.indexOf(' ') + 1, method.indexOf('(')));
        }
        for (Class<?> one : all) {
            int fields = 0;
            for (Field field : one.getDeclaredFields()) {
                boolean isStatic = Modifier.isStatic(field.getModifiers());
                must(!isStatic || Modifier.isFinal(field.getModifiers()), "rule 5: " + field);
                fields += isStatic ? 0 : 1;
            }
            must(fields <= 20, "rule 11: fields of " + one);
            for (Method method : one.getDeclaredMethods()) {
                must(method.getParameterCount() <= 7, "rule 11: " + method);
                must(one == EvenTen.class && Modifier.isPublic(method.getModifiers())
                    || !names.contains(method.getName()), "rule 1: the name of " + method);
            }
        }
    }

    private static void source() throws IOException {
        String source = Files.readString(SOURCE, StandardCharsets.ISO_8859_1);
        String bare = source.replaceAll("(?s)/\\*.*?\\*/", "").replaceAll("//[^\n]*", "")
            .replaceAll("\"[^\"\n]*\"", "\"\"");
        for (String word : new String[] {"throw", "throws", "try", "catch", "synchronized", "assert",
            "package", "native", "volatile", "transient", "Object", "System.out", "hashCode",
            "Exception", "Thread", "Random", "var"}) {
            must(!Pattern.compile("\\b" + Pattern.quote(word) + "\\b").matcher(bare).find(),
                "a word of no use: " + word);
        }
        must(!bare.contains("->") && !bare.contains("::"), "rule 2: no lambda, no method reference");
        must(!Pattern.compile("\\w+Exact\\(").matcher(bare).find(), "rule 4: no Exact");
        Matcher imports = Pattern.compile("(?m)^import (.*);$").matcher(bare);
        while (imports.find()) {
            must(imports.group(1).equals("java.util.Arrays"), "rule 4: " + imports.group(1));
        }
        must(source.chars().allMatch(sign -> sign < 128), "signs up to 127");
        methodsAreShort(source);
    }

    private static void methodsAreShort(String source) {
        String[] lines = source.split("\n");
        Pattern head = Pattern.compile("^( {4}| {8})(?! ).*\\) \\{$");
        for (int from = 0; from < lines.length; from++) {
            Matcher matcher = head.matcher(lines[from]);
            if (matcher.matches()) {
                String end = matcher.group(1) + "}";
                int to = from;
                while (to < lines.length && !lines[to].equals(end)) {
                    to++;
                }
                must(to - from < 60, "rule 11: a long method: " + lines[from].trim());
            }
        }
    }

    public static void main(String[] args) throws IOException {
        face();
        classesInside();
        source();
        System.out.println(wrong == 0 ? "the face is as told" : wrong + " rules are broken");
        if (wrong != 0) {
            System.exit(1);
        }
    }
}
