import java.lang.reflect.Constructor;
import java.lang.reflect.Field;
import java.lang.reflect.Method;
import java.lang.reflect.Modifier;
import java.nio.file.Files;
import java.nio.file.Path;
import java.util.ArrayList;
import java.util.Arrays;
import java.util.HashSet;
import java.util.List;
import java.util.Set;
import java.util.regex.Matcher;
import java.util.regex.Pattern;

/** The rules of LANGUAGE.md that can be seen from the outside, and the public face as the document has it. */
public final class LanguageTest {
    private static int wrong = 0;

    private static void must(boolean so, String rule) {
        if (!so) {
            wrong++;
            System.out.println("broken: " + rule);
        }
    }

    public static void main(String[] args) throws Exception {
        String text = Files.readString(Path.of("src/main/java/IllTonight.java"));
        String code = withoutComments(text);
        words(code);
        face();
        fields();
        methods(code);
        System.out.println(wrong == 0 ? "the rules are kept" : wrong + " rules are not kept");
        if (wrong != 0) {
            System.exit(1);
        }
    }

    private static String withoutComments(String text) {
        return text.replaceAll("(?s)/\\*.*?\\*/", " ").replaceAll("//[^\\n]*", " ").replaceAll("\"[^\"\\n]*\"", "\"\"");
    }

    private static void words(String code) {
        for (String word : List.of("throw", "throws", "try", "catch", "synchronized", "assert", "package", "yield",
            "Object", "equals", "hashCode", "toString", "getClass", "Random", "Thread", "Class", "Exception", "volatile",
            "native", "transient", "Scanner", "HashMap", "Optional", "Stream", "double", "float")) {
            must(!Pattern.compile("\\b" + word + "\\b").matcher(code).find(), "the word " + word);
        }
        must(!code.contains("->") && !code.contains("::"), "no lambda, no method reference");
        must(!code.contains("\"\" +") && !code.contains("+ \"\""), "no joining of texts by +");
        must(!Pattern.compile("static\\s*\\{").matcher(code).find(), "no static block");
        Matcher imports = Pattern.compile("import ([^;]+);").matcher(code);
        while (imports.find()) {
            must(imports.group(1).equals("java.util.Arrays"), "import of " + imports.group(1));
        }
        Matcher system = Pattern.compile("\\b(System|Arrays|Math|Integer|Long)\\.(\\w+)").matcher(code);
        Set<String> known = Set.of("System.arraycopy", "Arrays.copyOf", "Arrays.fill", "Math.min", "Math.max",
            "Integer.bitCount", "Integer.numberOfTrailingZeros", "Integer.MIN_VALUE", "Long.compare");
        while (system.find()) {
            must(known.contains(system.group()), "the library's " + system.group());
        }
        must(code.chars().allMatch(c -> c < 128), "signs beyond 127");
    }

    private static void face() {
        Class<?> face = IllTonight.class;
        must(Modifier.isPublic(face.getModifiers()) && Modifier.isFinal(face.getModifiers()), "public and final");
        Set<String> due = new HashSet<>(Arrays.asList("actor/4 part/3 turn/3 alter/3 usual/2 knows/3 of/3 ill/1 terms/2 "
            .concat("feed/5 end/1 row/0 forgot/0 law/0 fault/0 force/1 night/1 who/1 changed/0 chain/2 nth/2 gives/1 ")
            .concat("clear/0 judge/1 shut/1 closing/1 safe/1 unsafe/1 most/0 missed/1 key/1 odds/1 lesson/4 drop/1 ")
            .concat("learn/2 worth/2 teach/1 season/2 week/2 learnt/2 image/1 back/1 count/1 status/0").split(" ")));
        Set<String> names = new HashSet<>();
        due.forEach(d -> names.add(d.substring(0, d.indexOf('/'))));
        Set<String> there = new HashSet<>();
        for (Method m : face.getDeclaredMethods()) {
            if (Modifier.isPublic(m.getModifiers())) {
                there.add(m.getName() + "/" + m.getParameterCount());
                boolean longs = m.getName().equals("odds");
                must(m.getReturnType() == (longs ? long.class : int.class), "what " + m.getName() + " answers");
                must(Arrays.stream(m.getParameterTypes()).allMatch(t -> t == int.class), "what " + m.getName() + " takes");
                must(!Modifier.isStatic(m.getModifiers()), m.getName() + " is not static");
            } else {
                must(Modifier.isPrivate(m.getModifiers()), m.getName() + " is private");
                must(!names.contains(m.getName()), "no private method bears a public one's name: " + m.getName());
            }
        }
        must(there.equals(due), "the public methods are the document's");
        Constructor<?>[] made = face.getDeclaredConstructors();
        must(made.length == 1 && Modifier.isPublic(made[0].getModifiers()), "one public constructor");
        for (Class<?> inside : face.getDeclaredClasses()) {
            must(Modifier.isStatic(inside.getModifiers()), inside.getName() + " is static");
            for (Method m : inside.getDeclaredMethods()) {
                must(!names.contains(m.getName()), "no method inside bears a public one's name: " + m.getName());
            }
        }
        must(face.getDeclaredClasses().length <= 11, "some twelve classes");
    }

    private static void fields() {
        List<Class<?>> all = new ArrayList<>(Arrays.asList(IllTonight.class.getDeclaredClasses()));
        all.add(IllTonight.class);
        for (Class<?> one : all) {
            int own = 0;
            for (Field f : one.getDeclaredFields()) {
                if (Modifier.isStatic(f.getModifiers())) {
                    must(Modifier.isFinal(f.getModifiers()), f + " is final");
                    boolean array = f.getType() == int[].class || f.getType() == long[].class;
                    must(f.getType().isPrimitive() || f.getType() == String.class || array, f + " is a constant");
                } else {
                    own++;
                }
                boolean shown = one == IllTonight.class && !Modifier.isPrivate(f.getModifiers());
                must(!shown || f.getName().equals("NONE"), f + " is private");
            }
            must(own <= 20, one.getName() + " has some twenty fields");
            for (Method m : one.getDeclaredMethods()) {
                must(m.getParameterCount() <= 7, m + " takes at most seven");
            }
        }
    }

    /** A method is some sixty lines long at most. */
    private static void methods(String code) {
        String[] lines = code.split("\n", -1);
        int start = -1;
        for (int i = 0; i < lines.length; i++) {
            if (lines[i].matches(" {4,8}[a-z][^=;]*\\(.*\\{\\s*") && !lines[i].contains(" class ")) {
                start = i;
            } else if (start >= 0 && lines[i].matches(" {4,8}\\}\\s*")) {
                must(i - start < 60, "a method of " + (i - start + 1) + " lines at " + (start + 1));
                start = -1;
            }
        }
    }
}
