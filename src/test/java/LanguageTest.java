import java.lang.reflect.Constructor;
import java.lang.reflect.Field;
import java.lang.reflect.Method;
import java.lang.reflect.Modifier;
import java.nio.file.Files;
import java.nio.file.Path;
import java.util.ArrayList;
import java.util.List;
import java.util.Set;
import java.util.TreeSet;
import java.util.regex.Matcher;
import java.util.regex.Pattern;

/** What of ../shared/LANGUAGE.md can be seen from the source's text and from the compiled class. */
public final class LanguageTest {
    private static final Due DUE = new Due("LanguageTest");
    private static final String FACE = "space plane turns drops swaps makes of rank closed flats sign rings factor polynomial value"
            + " within parts walls way chain even places base form type clear reads why back told digest";

    public static void main(String[] args) throws Exception {
        String source = Files.readString(Path.of("src/main/java/PlaneCuts.java"));
        // Comments and constants of characters may hold anything.
        String code = source.replaceAll("(?s)/\\*.*?\\*/", "").replaceAll("//[^\n]*", "").replaceAll("'[^']*'", "'c'");
        words(code);
        methods(code);
        face();
        room();
        DUE.end();
    }

    private static void words(String code) {
        for (String word : new String[] {"throw", "throws", "try", "catch", "finally", "synchronized", "assert", "package", "protected", "native",
            "Object", "Random", "Thread", "System.out", "System.nano", "System.current", "Exact", "hashCode", "toString", "volatile"}) {
            DUE.holds("rules 4 and 6: no " + word, !Pattern.compile("\\b" + word + "\\b").matcher(code).find());
        }
        DUE.holds("rule 2: no lambda", !code.contains("->"));
        DUE.holds("rule 2: no method reference", !code.contains("::"));
        DUE.holds("rule 5: no static block", !Pattern.compile("static\\s*\\{").matcher(code).find());
        DUE.holds("rule 9: no while", !Pattern.compile("\\bwhile\\b").matcher(code).find());
        Matcher imports = Pattern.compile("import ([^;]*);").matcher(code);
        while (imports.find()) {
            DUE.holds("rule 4: import of " + imports.group(1), imports.group(1).equals("java.util.Arrays"));
        }
    }

    private static void methods(String code) {
        Matcher heads = Pattern.compile("\n( {4}| {8})((?:public |private |static |final )*)([\\w\\[\\]]+) (\\w+)\\(([^)]*)\\) \\{\n").matcher(code);
        Set<String> face = Set.of(FACE.split(" "));
        int seen = 0;
        while (heads.find()) {
            seen++;
            String name = heads.group(4);
            int end = code.indexOf("\n" + heads.group(1) + "}\n", heads.end() - 1);
            int lines = code.substring(heads.end(), end).split("\n").length;
            DUE.holds("rule 11: " + name + " has " + lines + " lines", lines <= 60);
            DUE.holds("rule 11: the parameters of " + name, heads.group(5).split(",").length <= 7);
            DUE.holds("rule 1: the name of " + name, heads.group(2).contains("public") == face.contains(name));
        }
        DUE.holds("the methods are found", seen > 80);
    }

    private static void face() {
        Set<String> found = new TreeSet<>();
        for (Method method : PlaneCuts.class.getDeclaredMethods()) {
            if (!Modifier.isPrivate(method.getModifiers())) {
                DUE.holds("rule 1: " + method, Modifier.isPublic(method.getModifiers()));
                DUE.holds("rule 1: once " + method, found.add(method.getName()));
            }
        }
        DUE.holds("rule 1: the methods " + found, found.equals(new TreeSet<>(List.of(FACE.split(" ")))));
        List<String> constants = new ArrayList<>();
        for (Field field : PlaneCuts.class.getDeclaredFields()) {
            if (!Modifier.isPrivate(field.getModifiers())) {
                constants.add(field.getName());
            }
        }
        DUE.holds("rule 1: the constants", constants.equals(List.of("NONE", "BAD", "NO", "FULL")));
        DUE.is("rule 1: constructors", PlaneCuts.class.getDeclaredConstructors().length, 1);
        for (Constructor<?> constructor : PlaneCuts.class.getDeclaredConstructors()) {
            DUE.holds("rule 1: public", Modifier.isPublic(constructor.getModifiers()));
        }
        Class<?>[] inside = PlaneCuts.class.getDeclaredClasses();
        DUE.holds("rule 11: at most twelve classes", inside.length + 1 <= 12);
        for (Class<?> type : inside) {
            DUE.holds("rule 1: " + type, Modifier.isStatic(type.getModifiers()) && !Modifier.isPublic(type.getModifiers()));
            fields(type);
        }
        fields(PlaneCuts.class);
    }

    private static void fields(Class<?> type) {
        int many = 0;
        for (Field field : type.getDeclaredFields()) {
            if (Modifier.isStatic(field.getModifiers())) {
                DUE.holds("rule 5: " + field, Modifier.isFinal(field.getModifiers()));
            } else {
                many++;
            }
        }
        DUE.holds("rule 11: fields of " + type, many <= 20);
    }

    /** No call makes an object, so that a run of any length stays in its room. */
    private static void room() {
        com.sun.management.ThreadMXBean threads =
                (com.sun.management.ThreadMXBean) java.lang.management.ManagementFactory.getThreadMXBean();
        PlaneCuts x = new PlaneCuts();
        busy(x);
        long before = threads.getCurrentThreadAllocatedBytes();
        for (int round = 0; round < 20; round++) {
            busy(x);
        }
        long made = threads.getCurrentThreadAllocatedBytes() - before;
        DUE.holds("rule 12: 20 rounds made " + made + " bytes", made < 2000);
    }

    private static void busy(PlaneCuts x) {
        x.space(4);
        x.makes(3);
        x.plane(1, 2, 3, 3);
        x.turns(0);
        x.drops(1);
        x.swaps(0, 1);
        x.plane(1, 1, 1, 1);
        x.clear();
        for (int k = 0; k < 9; k++) {
            x.type("m2;t0;x9;".charAt(k));
        }
        x.reads();
        for (int set = 0; set < 512; set++) {
            x.rank(set);
            x.closed(set);
            x.sign(set);
            x.walls(set);
            x.way(set, 511 - set, 1);
            x.form(set, 0);
            x.polynomial(set, 1);
        }
        for (int k = -1; k < 9; k++) {
            x.flats(k, k);
            x.base(k, k);
            x.parts(k);
            x.rings(k);
            x.factor(k, k);
            x.chain(k, 0);
            x.even(k);
            x.places(k, 0);
            x.places(k, 1);
            x.value(k);
            x.within(k, 1);
        }
        x.digest();
        x.back();
    }
}
