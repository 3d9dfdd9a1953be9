import java.lang.reflect.Field;
import java.lang.reflect.Method;
import java.lang.reflect.Modifier;
import java.nio.file.Files;
import java.nio.file.Path;
import java.util.Random;
import java.util.TreeSet;
import java.util.regex.Matcher;
import java.util.regex.Pattern;

/** The face, what of ../shared/LANGUAGE.md a test can see, and that no call throws. */
public final class LanguageTest {
    private static final String[] FACE = {
        "int write(int,long)", "int wipe()", "int fault()", "int village()", "int person(int,int)",
        "int thing(int,int)", "int law(int,int)", "int lend(int,int)", "int back(int,int)", "int day()", "int undo()",
        "int least(int)", "int leastAt(int,int)", "int cap(int)", "int see(int,int,boolean)", "int unsee()",
        "int hands(int,int)", "int surely(int,int)", "long borrow(int,int,int,int,boolean)", "long seed(long)",
        "int year(int)", "int keep(int)", "int again(int)", "int count(int)"};
    private static final String[] CONSTANTS = {"UNKNOWN", "OUTSIDE", "STATE", "FULL", "NONE"};
    private static final int[] EDGES = {Integer.MIN_VALUE, -10, -9, -2, -1, 0, 1, 2, 3, 4, 5, 6, 7, 8, 9, 10, 15, 16, 31,
        32, 33, 40, 41, 63, 64, 9999, 10000, Integer.MAX_VALUE};

    public static void main(String[] args) throws Exception {
        face();
        words();
        anyArguments();
        Check.end();
    }

    private static void face() {
        TreeSet<String> want = new TreeSet<>(java.util.List.of(FACE));
        TreeSet<String> got = new TreeSet<>();
        TreeSet<String> hidden = new TreeSet<>();
        for (Method method : SpoonfulMore.class.getDeclaredMethods()) {
            StringBuilder told = new StringBuilder(method.getReturnType() + " " + method.getName() + "(");
            for (int i = 0; i < method.getParameterCount(); i++) {
                told.append(i == 0 ? "" : ",").append(method.getParameterTypes()[i]);
            }
            if (Modifier.isPrivate(method.getModifiers())) {
                hidden.add(method.getName());
            } else {
                got.add(told.append(")").toString());
            }
        }
        Check.due("face " + got, got.equals(want) ? 1 : 0, 1);
        for (String told : want) {
            String name = told.substring(told.indexOf(' ') + 1, told.indexOf('('));
            Check.due("a private method " + name, hidden.contains(name) ? 1 : 0, 0);
        }
        int open = 0;
        for (Field field : SpoonfulMore.class.getDeclaredFields()) {
            open += Modifier.isPrivate(field.getModifiers()) ? 0 : 1;
            Check.due(field + " static, not final",
                Modifier.isStatic(field.getModifiers()) && !Modifier.isFinal(field.getModifiers()) ? 1 : 0, 0);
        }
        Check.due("constants", open, CONSTANTS.length);
        Check.due("final", Modifier.isFinal(SpoonfulMore.class.getModifiers()) ? 1 : 0, 1);
        int[] values = {SpoonfulMore.UNKNOWN, SpoonfulMore.OUTSIDE, SpoonfulMore.STATE, SpoonfulMore.FULL,
            SpoonfulMore.NONE};
        int[] due = {-1, -2, -3, -4, -9};
        for (int i = 0; i < due.length; i++) {
            Check.due(CONSTANTS[i], values[i], due[i]);
        }
    }

    private static void words() throws Exception {
        String code = Files.readString(Path.of("src/main/java/SpoonfulMore.java"));
        String bare = code.replaceAll("(?s)/\\*.*?\\*/", "").replaceAll("//[^\n]*", "");
        Matcher matcher = Pattern.compile(
            "\\b(throw|throws|try|catch|synchronized|assert|import|package|hashCode|toString|double|float|native|"
            + "transient|volatile|\\w+Exact)\\b|->|::|\\bstatic *\\{").matcher(bare);
        while (matcher.find()) {
            Check.due("a word outside the language: " + matcher.group(), 1, 0);
        }
        Matcher library = Pattern.compile("\\b(Math|Integer|Long|System|Arrays)\\.(\\w+)").matcher(bare);
        java.util.Set<String> allowed = java.util.Set.of("Math.max", "Math.min", "Integer.bitCount",
            "System.arraycopy");
        while (library.find()) {
            Check.due("of the library: " + library.group(), allowed.contains(library.group()) ? 1 : 0, 1);
        }
        Check.due("signs above 127", code.chars().anyMatch(c -> c > 127) ? 1 : 0, 0);
    }

    private static int edge(Random random) {
        return random.nextInt(3) == 0 ? EDGES[random.nextInt(EDGES.length)] : random.nextInt(7);
    }

    /** More than 512 calls, too: what they answer is free, but none throws. */
    private static void anyArguments() throws Exception {
        Random random = new Random(5);
        String[] texts = {"V09P99P99P99K01K12K02T001T112T225N000N100N211", "V31P50P50K01T000T111N000N101", "V01", "V0",
            "V09P00P00P00P00K01K02K03K12K13K23T000T000T000T000T000T000N100N200N101N201N102N202N103N203"};
        Method[] methods = SpoonfulMore.class.getMethods();
        for (int run = 0; run < 60; run++) {
            SpoonfulMore x = new SpoonfulMore();
            for (int call = 0; call < 1500; call++) {
                if (call % 150 == 0) {
                    x.wipe();
                    Check.write(x, texts[random.nextInt(texts.length)]);
                    x.village();
                }
                Method method = methods[random.nextInt(methods.length)];
                if (method.getDeclaringClass() == SpoonfulMore.class) {
                    callAnyhow(x, method, random);
                }
            }
        }
    }

    private static void callAnyhow(SpoonfulMore x, Method method, Random random) throws Exception {
        Object[] arguments = new Object[method.getParameterCount()];
        for (int i = 0; i < arguments.length; i++) {
            Class<?> type = method.getParameterTypes()[i];
            if (type == boolean.class) {
                arguments[i] = random.nextBoolean();
            } else if (type == long.class) {
                arguments[i] = random.nextLong();
            } else {
                arguments[i] = edge(random);
            }
        }
        try {
            method.invoke(x, arguments);
        } catch (java.lang.reflect.InvocationTargetException e) {
            Check.due(method + " " + java.util.Arrays.toString(arguments) + " threw " + e.getCause(), 1, 0);
        }
    }
}
