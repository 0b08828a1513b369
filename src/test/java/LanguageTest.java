import java.io.IOException;
import java.lang.reflect.Constructor;
import java.lang.reflect.Field;
import java.lang.reflect.Method;
import java.lang.reflect.Modifier;
import java.nio.file.Files;
import java.nio.file.Path;
import java.util.List;
import java.util.Map;
import java.util.Set;
import java.util.TreeSet;
import java.util.regex.Matcher;
import java.util.regex.Pattern;

/** Rules of LANGUAGE.md that can be seen from the class and its text. */
public final class LanguageTest {
    private static final String[] FACE = {
        "feed(int,long)", "town()", "fault()", "told(int)", "cell(int,int)", "crowd(int,int)", "tune(int,int)",
        "far(int,int,int,int)", "minute(int,int)", "wall(int,int,boolean)", "drift(int)", "plan(int,int)", "drop()",
        "judge()", "tried(int,int)", "where(int,int)", "soonest(int,int,int)", "bestWall(int,int)", "wax(int)",
        "see(int,int,int,int)", "walks(int,int,int)", "tear()", "seed(int)", "keep(int)", "goBack(int)"};
    private static final String[] CONSTANTS = {"NONE", "UNKNOWN", "OUTSIDE", "NOT", "FULL"};
    // Rule 4 lists more; the class needs no more.
    private static final Set<String> LIBRARY = Set.of("java/lang/Object.<init>()V", "java/lang/String.length()I",
        "java/lang/String.charAt(I)C", "java/lang/Math.max(II)I", "java/lang/Math.min(II)I");
    private static final Set<String> RECURSIVE = Set.of("HeardTunes$Soonest.leads(II)Z", "HeardTunes$Soonest.stepLeads(II)Z",
        "HeardTunes$Fitting.fit(I)I", "HeardTunes$Fitting.fitSteps(I)I");
    private static final int MOST_DEEP = 8;

    public static void main(String[] args) throws IOException {
        face();
        classes();
        words(Files.readString(Path.of("src/main/java/HeardTunes.java")));
        instructions(Compiled.all(HeardTunes.class));
        Check.end("LanguageTest");
    }

    private static void face() {
        Set<String> due = new TreeSet<>(Set.of(FACE));
        Set<String> names = names();
        Set<String> got = new TreeSet<>();
        for (Method method : HeardTunes.class.getDeclaredMethods()) {
            if (Modifier.isPublic(method.getModifiers())) {
                got.add(signature(method));
                Check.isTrue(method + " answers an int", method.getReturnType() == int.class);
            } else {
                Check.isTrue(method + " is private", Modifier.isPrivate(method.getModifiers()));
                Check.isTrue(method + " has a name of its own", !names.contains(method.getName()));
            }
        }
        Check.isTrue("the public methods " + got, got.equals(due));
        Set<String> fields = new TreeSet<>();
        for (Field field : HeardTunes.class.getDeclaredFields()) {
            if (Modifier.isPublic(field.getModifiers())) {
                fields.add(field.getName());
            } else {
                Check.isTrue(field + " is private", Modifier.isPrivate(field.getModifiers()));
            }
        }
        Check.isTrue("the public constants " + fields, fields.equals(new TreeSet<>(Set.of(CONSTANTS))));
        Constructor<?>[] made = HeardTunes.class.getDeclaredConstructors();
        Check.isTrue("one public constructor", made.length == 1 && Modifier.isPublic(made[0].getModifiers()));
        Check.isTrue("the class is final", Modifier.isFinal(HeardTunes.class.getModifiers()));
    }

    private static Set<String> names() {
        Set<String> names = new TreeSet<>();
        for (String one : FACE) {
            names.add(one.substring(0, one.indexOf('(')));
        }
        return names;
    }

    private static String signature(Method method) {
        StringBuilder text = new StringBuilder(method.getName()).append('(');
        for (Class<?> type : method.getParameterTypes()) {
            text.append(text.charAt(text.length() - 1) == '(' ? "" : ",").append(type.getName());
        }
        return text.append(')').toString();
    }

    private static void classes() {
        Class<?>[] inside = HeardTunes.class.getDeclaredClasses();
        Check.isTrue("twelve classes at most", inside.length + 1 <= 12);
        fields(HeardTunes.class);
        for (Class<?> one : inside) {
            Check.isTrue(one + " is static", Modifier.isStatic(one.getModifiers()));
            Check.isTrue(one + " is not public", !Modifier.isPublic(one.getModifiers()));
            fields(one);
            for (Method method : one.getDeclaredMethods()) {
                Check.isTrue(method + " has seven parameters at most", method.getParameterCount() <= 7);
                Check.isTrue(method + " has a name of its own", !names().contains(method.getName()));
                Check.isTrue(method + " answers a type of rule 3",
                    method.getReturnType() == void.class || isAllowed(method.getReturnType()));
                for (Class<?> type : method.getParameterTypes()) {
                    Check.isTrue(method + " takes types of rule 3", isAllowed(type));
                }
            }
        }
    }

    private static void fields(Class<?> one) {
        int own = 0;
        for (Field field : one.getDeclaredFields()) {
            if (Modifier.isStatic(field.getModifiers())) {
                Check.isTrue(field + " is final", Modifier.isFinal(field.getModifiers()));
                Check.isTrue(field + " is a constant of rule 5", field.getType().isPrimitive() || field.getType() == String.class);
            } else {
                own++;
                Check.isTrue(field + " has a type of rule 3", isAllowed(field.getType()));
            }
        }
        Check.isTrue(one + " has twenty fields at most", own <= 20);
    }

    private static boolean isAllowed(Class<?> type) {
        Class<?> single = type.isArray() ? type.getComponentType() : type;
        boolean isOwn = single.getNestHost() == HeardTunes.class;
        return isOwn || single.isPrimitive() || type == String.class
            || single.isArray() && single.getComponentType().isPrimitive();
    }

    /** Rules 4 to 6, 8, 11 and 12, by what the compiler made of the class. */
    private static void instructions(Map<String, Compiled.Code> all) {
        Check.isTrue("the class files are read", all.size() > FACE.length);
        for (Map.Entry<String, Compiled.Code> one : all.entrySet()) {
            String method = one.getKey();
            Compiled.Code code = one.getValue();
            for (String call : code.calls) {
                Check.isTrue(method + " may call " + call, all.containsKey(call) || LIBRARY.contains(call));
            }
            Check.isTrue(method + " catches nothing", !code.catches);
            Check.isTrue(method + " throws nothing", !code.instructions.contains(Compiled.ATHROW));
            Check.isTrue(method + " locks nothing", !code.instructions.contains(Compiled.MONITOR_ENTER));
            Check.isTrue(method + " has no lambda and joins no texts", !code.instructions.contains(Compiled.INVOKE_DYNAMIC));
            Check.isTrue(method + " is no static initialiser", !method.contains("<clinit>"));
            Check.isTrue(method + " makes nothing unless it is a constructor", method.contains("<init>") || !makes(code));
            Check.isTrue(method + " calls itself only if it is known to", Compiled.comesBack(all, method) == RECURSIVE.contains(method));
            List<String> deepest = Compiled.deepest(all, method);
            Check.isTrue("eight deep at most: " + deepest, deepest.size() <= MOST_DEEP);
        }
    }

    private static boolean makes(Compiled.Code code) {
        return code.instructions.contains(Compiled.NEW) || code.instructions.contains(Compiled.NEW_ARRAY)
            || code.instructions.contains(Compiled.NEW_ROW) || code.instructions.contains(Compiled.NEW_TABLE);
    }

    private static void words(String source) {
        String code = source.replaceAll("(?s)/\\*.*?\\*/", "").replaceAll("//[^\n]*", "").replaceAll("\"[^\"\n]*\"", "\"\"");
        for (String word : new String[] {"import", "package", "throw", "throws", "try", "catch", "finally", "synchronized",
            "assert", "volatile", "native", "System", "Exception", "Error", "Object", "Thread", "Random", "transient"}) {
            Check.isTrue("the word " + word + " does not stand there", !Pattern.compile("\\b" + word + "\\b").matcher(code).find());
        }
        for (String sign : new String[] {"->", "::", "@"}) {
            Check.isTrue("the sign " + sign + " does not stand there", !code.contains(sign));
        }
        Matcher calls = Pattern.compile("\\b(Math|Integer|Long|Arrays)\\.(\\w+)").matcher(code);
        while (calls.find()) {
            Check.isTrue(calls.group() + " is among those listed", Set.of("min", "max").contains(calls.group(2)));
        }
        methodsAreShort(code);
    }

    private static void methodsAreShort(String code) {
        int from = -1;
        String[] lines = code.split("\n");
        for (int i = 0; i < lines.length; i++) {
            if (lines[i].matches(" {4,8}\\w[\\w \\[\\]]*\\([^;]*\\) \\{")) {
                from = i;
            } else if (from >= 0 && lines[i].matches(" {4,8}\\}")) {
                Check.isTrue("line " + (from + 1) + " begins a short method", i - from < 60);
                from = -1;
            }
        }
    }
}
