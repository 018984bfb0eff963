import java.lang.management.ManagementFactory;
import java.lang.reflect.Constructor;
import java.lang.reflect.Field;
import java.lang.reflect.Method;
import java.lang.reflect.Modifier;
import java.nio.charset.StandardCharsets;
import java.nio.file.Files;
import java.nio.file.Path;
import java.util.Set;
import java.util.TreeSet;
import java.util.regex.Matcher;
import java.util.regex.Pattern;

/** What ../shared/LANGUAGE.md asks and can be seen from outside: the face, the words used, no throwing, the room. */
public final class LanguageTest {
    private static final String[] FACE = {
        "int land(int,int,int)", "int rate(int,int)", "int people(int,int)", "long posted(int,int)",
        "int type(long,int)", "int clear()", "int habit()", "int found(int,int,int,int)",
        "long weighed(int,int,int,int)", "int mends(int,int,int)", "long ways(int,int,int,int,int)",
        "int few(int,int,int,int)", "int may(int,int,int,int)", "long shadow(int,int,int,int)", "int week(int)",
        "int turn(int,int)", "int stops()", "int house(int,int,int)", "int held(int)", "int wider(int)",
        "int price(int,int)", "int error(int,int)", "int best(int,int)", "int cost(int,int)", "int begin()",
        "int count(int)", "long trace()"};
    private static final String[] NEVER = {
        "throw", "throws", "try", "catch", "synchronized", "assert", "volatile", "protected", "->", "::", "Exact",
        "System.out", "System.nano", "System.current", "Random", "Thread", "equals", "hashCode", "toString"};
    private static final int[] NUMBERS = {
        Integer.MIN_VALUE, -1, 0, 1, 2, 3, 7, 8, 24, 50, 51, 100, 1000, 9999, Integer.MAX_VALUE};
    private static int wrong = 0;

    public static void main(String[] args) throws Exception {
        face();
        words();
        lengths();
        nothingThrows();
        room();
        System.out.println("LanguageTest: " + wrong + " wrong");
        if (wrong != 0) {
            System.exit(1);
        }
    }

    private static void expect(boolean right, String what) {
        if (!right) {
            wrong++;
            System.out.println("LanguageTest: " + what);
        }
    }

    private static String told(Method method) {
        StringBuilder told = new StringBuilder(method.getReturnType().getName() + " " + method.getName() + "(");
        Class<?>[] parameters = method.getParameterTypes();
        for (int i = 0; i < parameters.length; i++) {
            told.append(i == 0 ? "" : ",").append(parameters[i].getName());
        }
        return told.append(')').toString();
    }

    private static void face() {
        Class<?> program = PostedAsks.class;
        expect(Modifier.isPublic(program.getModifiers()) && Modifier.isFinal(program.getModifiers()), "not public and final");
        Set<String> want = new TreeSet<>(Set.of(FACE));
        Set<String> names = new TreeSet<>();
        Set<String> got = new TreeSet<>();
        for (Method method : program.getDeclaredMethods()) {
            if (!Modifier.isPrivate(method.getModifiers())) {
                got.add(told(method));
                names.add(method.getName());
            }
        }
        expect(got.equals(want), "the face is " + got);
        Constructor<?>[] constructors = program.getDeclaredConstructors();
        expect(constructors.length == 1 && Modifier.isPublic(constructors[0].getModifiers())
            && constructors[0].getParameterCount() == 0, "the constructor");
        Set<String> constants = new TreeSet<>();
        for (Field field : program.getDeclaredFields()) {
            if (!Modifier.isPrivate(field.getModifiers())) {
                constants.add(field.getName());
                expect(Modifier.isPublic(field.getModifiers()) && Modifier.isStatic(field.getModifiers())
                    && Modifier.isFinal(field.getModifiers()), field.getName());
            }
        }
        expect(constants.equals(new TreeSet<>(Set.of("BAD", "STATE", "FULL", "NONE", "NO"))), "constants are " + constants);
        inside(program, names);
    }

    private static void inside(Class<?> program, Set<String> names) {
        for (Class<?> inner : program.getDeclaredClasses()) {
            expect(Modifier.isStatic(inner.getModifiers()), inner.getName() + " is not static");
            expect(inner.getDeclaredFields().length <= 20, inner.getName() + " has too many fields");
            for (Method method : inner.getDeclaredMethods()) {
                expect(!names.contains(method.getName()), inner.getName() + " bears " + method.getName());
            }
        }
        for (Method method : program.getDeclaredMethods()) {
            expect(!Modifier.isPrivate(method.getModifiers()) || !names.contains(method.getName()), "private " + method.getName());
            expect(method.getParameterCount() <= 7, method.getName() + " takes too much");
        }
        expect(program.getDeclaredClasses().length < 12, "too many classes");
    }

    private static String source() throws Exception {
        return Files.readString(Path.of("src/main/java/PostedAsks.java"), StandardCharsets.UTF_8);
    }

    private static void words() throws Exception {
        String source = source();
        expect(source.chars().allMatch(sign -> sign < 128), "a sign beyond 127");
        String code = source.replaceAll("(?s)/\\*.*?\\*/", "").replaceAll("//[^\n]*", "");
        for (String word : NEVER) {
            String bounded = Character.isLetter(word.charAt(0)) ? "\\b" + Pattern.quote(word) + "\\b" : Pattern.quote(word);
            expect(!Pattern.compile(bounded).matcher(code).find(), "uses " + word);
        }
        Matcher imports = Pattern.compile("import ([^;]+);").matcher(code);
        while (imports.find()) {
            expect(imports.group(1).equals("java.util.Arrays"), "imports " + imports.group(1));
        }
        expect(!Pattern.compile("^package ", Pattern.MULTILINE).matcher(code).find(), "has a package");
    }

    /** A method begins behind 4 or 8 blanks and ends with a brace behind as many. */
    private static void lengths() throws Exception {
        String[] lines = source().split("\n");
        for (int i = 0; i < lines.length; i++) {
            Matcher head = Pattern.compile("( {4}| {8})\\S.*\\) \\{").matcher(lines[i]);
            if (head.matches()) {
                int end = i;
                while (end < lines.length && !lines[end].equals(head.group(1) + "}")) {
                    end++;
                }
                expect(end - i < 60, "too long: " + lines[i]);
            }
        }
    }

    private static void nothingThrows() throws Exception {
        for (Method method : PostedAsks.class.getDeclaredMethods()) {
            if (Modifier.isPublic(method.getModifiers())) {
                PostedAsks empty = new PostedAsks();
                PostedAsks full = fullest();
                int parameters = method.getParameterCount();
                int tries = (int) Math.round(Math.pow(NUMBERS.length, Math.min(parameters, 4)));
                for (int i = 0; i < tries; i++) {
                    tryCall(method, empty, i);
                    tryCall(method, full, i);
                }
            }
        }
    }

    private static void tryCall(Method method, PostedAsks x, int way) throws Exception {
        Class<?>[] types = method.getParameterTypes();
        Object[] values = new Object[types.length];
        int rest = way;
        for (int i = 0; i < types.length; i++) {
            int number = NUMBERS[rest % NUMBERS.length];
            rest = i == 3 ? way / 7 : rest / NUMBERS.length;
            values[i] = types[i] == long.class ? (Object) (long) number : (Object) number;
        }
        try {
            method.invoke(x, values);
        } catch (java.lang.reflect.InvocationTargetException thrown) {
            expect(false, method.getName() + java.util.Arrays.toString(values) + " threw " + thrown.getCause());
        }
    }

    private static PostedAsks fullest() {
        PostedAsks x = new PostedAsks();
        for (int land = 0; land < 4; land++) {
            for (int group = 0; group < 8; group++) {
                x.land(land, group, group == 7 ? 8 : 6);
            }
        }
        for (int i = 0; i < 12; i++) {
            x.type(0x66696e6420786c79L, 8);
            x.type(0x2035303bL, 4);
        }
        x.habit();
        for (int i = 0; i < 300; i++) {
            x.type('a' + i % 26, 1);
        }
        for (int i = 0; i < 60; i++) {
            x.week(i * 37 % 1001);
        }
        for (int i = 0; i < 24; i++) {
            x.house(i * 41, i, 1000 - i * 41);
        }
        return x;
    }

    /** All calls of a run live in one room, so no call may make anything that is not made in the constructor. */
    private static void room() {
        com.sun.management.ThreadMXBean threads = (com.sun.management.ThreadMXBean) ManagementFactory.getThreadMXBean();
        PostedAsks x = fullest();
        callAll(x);
        long id = Thread.currentThread().getId();
        threads.getThreadAllocatedBytes(id);
        long before = threads.getThreadAllocatedBytes(id);
        for (int i = 0; i < 500; i++) {
            callAll(x);
        }
        long made = threads.getThreadAllocatedBytes(id) - before;
        expect(made < 20000, "calls made " + made + " bytes");
    }

    private static void callAll(PostedAsks x) {
        x.land(0, 0, 5);
        x.rate(5, 50);
        x.posted(0, 4);
        x.type(0x616c6c207878783bL, 8);
        x.habit();
        x.clear();
        x.found(0, 20, 20, 8);
        x.weighed(0, 20, 20, 0);
        x.mends(0, 20, 20);
        x.ways(50, 20, 20, 5, 0);
        x.few(50, 25, 5, 90);
        x.may(50, 20, 10, 2);
        x.shadow(0, 3, 5, 0);
        x.week(500);
        x.turn(5, 0);
        x.stops();
        x.house(1, 1, 1);
        x.held(5);
        x.wider(5);
        x.error(0, 20);
        x.best(9999, 0);
        for (int kind = 0; kind < 7; kind++) {
            x.cost(kind, 0);
        }
        x.count(0);
        x.trace();
    }
}
