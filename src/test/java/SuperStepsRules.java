import java.lang.reflect.Constructor;
import java.lang.reflect.Field;
import java.lang.reflect.Method;
import java.lang.reflect.Modifier;
import java.nio.file.Files;
import java.nio.file.Path;
import java.util.Arrays;
import java.util.List;
import java.util.Set;
import java.util.TreeSet;
import java.util.regex.Matcher;
import java.util.regex.Pattern;

/** The face of the document, and those rules of LANGUAGE.md that a program can look for. */
public final class SuperStepsRules {
    private static final List<String> METHODS = List.of("write/1", "wipe/0", "fault/0", "lay/0", "step/1", "value/2", "move/2",
        "combine/1", "undo/0", "point/2", "letter/3", "worker/2", "sum/2", "rest/2", "count/1");
    private static final List<String> CONSTANTS = List.of("BAD", "NO", "FULL", "NONE");
    private static final String BANNED = "\\b(throw|throws|try|catch|synchronized|assert|import|package|Object|Exception|Error|Thread|"
        + "Runtime|Random|volatile|native|transient|equals|hashCode|toString|enum|yield|var|currentTimeMillis|nanoTime|\\w+Exact)\\b"
        + "|->|::|@|\\?\\?|[^\\x00-\\x7f]";
    private static int wrong = 0;

    private static void must(boolean holds, String what) {
        if (!holds) {
            wrong++;
            System.out.println(what);
        }
    }

    private static void face() throws Exception {
        Class<?> c = SuperSteps.class;
        must(Modifier.isPublic(c.getModifiers()) && Modifier.isFinal(c.getModifiers()), "rule 1: public and final");
        Constructor<?>[] made = c.getDeclaredConstructors();
        must(made.length == 1 && made[0].getParameterCount() == 0 && Modifier.isPublic(made[0].getModifiers()), "rule 1: one constructor");
        Set<String> seen = new TreeSet<>();
        for (Method m : c.getDeclaredMethods()) {
            if (m.isSynthetic()) {
                continue;
            }
            String name = m.getName() + "/" + m.getParameterCount();
            if (Modifier.isPublic(m.getModifiers())) {
                seen.add(name);
                must(m.getReturnType() == int.class && !Modifier.isStatic(m.getModifiers()), "face: " + name);
                must(Arrays.stream(m.getParameterTypes()).allMatch(t -> t == int.class), "face: " + name);
            } else {
                must(Modifier.isPrivate(m.getModifiers()), "rule 1: " + name + " is neither public nor private");
                must(METHODS.stream().noneMatch(f -> f.startsWith(m.getName() + "/")), "rule 1: private " + name);
            }
        }
        must(seen.equals(new TreeSet<>(METHODS)), "face: methods " + seen);
        for (Field f : c.getDeclaredFields()) {
            boolean isConstant = CONSTANTS.contains(f.getName());
            must(isConstant == Modifier.isPublic(f.getModifiers()), "rule 1: field " + f.getName());
            must(isConstant || Modifier.isPrivate(f.getModifiers()), "rule 1: field " + f.getName());
            must(!Modifier.isStatic(f.getModifiers()) || Modifier.isFinal(f.getModifiers()), "rule 5: field " + f.getName());
        }
        must(SuperSteps.BAD == -1 && SuperSteps.NO == -2 && SuperSteps.FULL == -3 && SuperSteps.NONE == -4, "face: constants");
        for (Class<?> inside : c.getDeclaredClasses()) {
            int mods = inside.getModifiers();
            must(Modifier.isStatic(mods) && !Modifier.isPublic(mods) && !Modifier.isProtected(mods), "rule 2: " + inside);
            must(inside.getDeclaredFields().length <= 20, "rule 11: fields of " + inside);
            for (Method m : inside.getDeclaredMethods()) {
                must(m.getParameterCount() <= 7, "rule 11: parameters of " + m);
                must(METHODS.stream().noneMatch(f -> f.startsWith(m.getName() + "/")), "rule 1: " + m);
            }
        }
        must(c.getDeclaredClasses().length < 12, "rule 11: classes");
    }

    private static void source() throws Exception {
        String all = Files.readString(Path.of("src/main/java/SuperSteps.java"));
        String code = all.replaceAll("(?s)/\\*.*?\\*/", "").replaceAll("//[^\n]*", "").replaceAll("\"[^\"\n]*\"", "\"\"");
        Matcher banned = Pattern.compile(BANNED).matcher(code);
        while (banned.find()) {
            must(false, "rules 3, 4, 6: " + banned.group());
        }
        Matcher library = Pattern.compile("\\b(System|Math|Integer|Long|Arrays)\\.(\\w+)").matcher(code);
        List<String> fine = List.of("System.arraycopy", "Math.max", "Math.min", "Math.floorMod", "Integer.bitCount");
        while (library.find()) {
            must(fine.contains(library.group()), "rule 4: " + library.group());
        }
        Matcher method = Pattern.compile("(?m)^( +)[\\w\\[\\] ]+\\([^()]*\\) \\{\n(?s:(.*?))^\\1\\}").matcher(code);
        int methods = 0;
        while (method.find()) {
            methods++;
            must(method.group(2).lines().count() <= 60, "rule 11: a long method" + method.group());
        }
        must(methods > 30, "methods were looked at");
        must(!Pattern.compile("while \\(true\\)|for \\(;;\\)").matcher(code).find(), "rule 9: a loop without an end");
    }

    public static void main(String[] args) throws Exception {
        face();
        source();
        System.out.println(wrong == 0 ? "the rules hold" : wrong + " rules do not hold");
        if (wrong != 0) {
            System.exit(1);
        }
    }
}
