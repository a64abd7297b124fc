import java.io.IOException;
import java.lang.reflect.Constructor;
import java.lang.reflect.Field;
import java.lang.reflect.InvocationTargetException;
import java.lang.reflect.Member;
import java.lang.reflect.Method;
import java.lang.reflect.Modifier;
import java.nio.file.Files;
import java.nio.file.Path;
import java.util.Arrays;
import java.util.HashSet;
import java.util.Random;
import java.util.Set;
import java.util.TreeSet;

/** The face is the document's and no more, no call throws, and some rules of LANGUAGE.md hold. */
public final class FaceTest {
    private static final String[] FACE = {
        "int clear()", "int append(char)", "int driver(int)", "int ask(int)", "int send(int)",
        "int shout(int,char)", "int wash(int)", "int back(int)", "int cut(int,int)", "int tie(int,int)",
        "int beats(int)", "int read()", "int fault()", "int reason(int,boolean)", "int driverOf(int,int)",
        "int lineOf(int,int,boolean)", "int leader()", "boolean reaches(int,int)", "int longer(int,int)",
        "boolean wouldVote(int,int)", "int couldLead(int)", "int couldLeadAgain(int)", "int alike(int,int)",
        "int holders(int,int)", "int agreed()", "int agreedAgain()", "int conflicts()", "int isSafe()",
        "int ranked(int)", "int oldest(int)", "int quietBeats()", "int tell(int)", "int tellVotes(int)",
        "int written(int)", "float meanTale()", "double agreedShare()", "int account(int)", "int undo()",
        "int save()", "int restore()"};
    private static final String[] CONSTANTS = {"NONE", "BAD", "REFUSED", "NOTHING"};
    private static final String[] FORBIDDEN = {
        "import", "throw", "throws", "try", "catch", "finally", "instanceof", "synchronized", "assert",
        "->", "::", "equals", "hashCode", "toString", "protected", "System", "Exact", "Float", "Double"};
    private static final int[] NUMBERS = {
        Integer.MIN_VALUE, -100, -2, -1, 0, 1, 2, 3, 4, 5, 9, 10, 12, 13, 20, 21, 60, Integer.MAX_VALUE};
    private static final char[] SIGNS = {0, ' ', 'a', 'z', '~', 127, 255, 65535};

    private static int wrong = 0;

    public static void main(String[] arguments) throws IOException {
        members();
        nestedClasses();
        source();
        wildCalls();
        System.out.println(wrong == 0 ? "the face is as due" : wrong + " things are not as due");
        if (wrong != 0) {
            System.exit(1);
        }
    }

    private static void need(boolean isSo, String what) {
        if (!isSo) {
            wrong++;
            System.out.println("not so: " + what);
        }
    }

    private static String signatureOf(Method method) {
        StringBuilder text = new StringBuilder();
        text.append(method.getReturnType().getName()).append(' ').append(method.getName()).append('(');
        for (int i = 0; i < method.getParameterCount(); i++) {
            text.append(i == 0 ? "" : ",").append(method.getParameterTypes()[i].getName());
        }
        return text.append(')').toString();
    }

    private static boolean isOpen(Member member) {
        return !Modifier.isPrivate(member.getModifiers()) && !member.isSynthetic();
    }

    private static void members() {
        Set<String> methods = new TreeSet<>();
        for (Method method : LogRaft.class.getDeclaredMethods()) {
            if (isOpen(method)) {
                methods.add(signatureOf(method));
                need(Modifier.isPublic(method.getModifiers()), method + " is public");
                need(!Modifier.isStatic(method.getModifiers()), method + " is not static");
            }
        }
        need(methods.equals(new TreeSet<>(Arrays.asList(FACE))), "the methods are the document's: " + methods);
        Set<String> fields = new TreeSet<>();
        for (Field field : LogRaft.class.getDeclaredFields()) {
            if (isOpen(field)) {
                fields.add(field.getName());
                need(Modifier.isFinal(field.getModifiers()) && field.getType() == int.class, field + " is a constant");
            }
            boolean isState = Modifier.isStatic(field.getModifiers()) && !Modifier.isFinal(field.getModifiers());
            need(!isState, field + " is no static state");
        }
        need(fields.equals(new TreeSet<>(Arrays.asList(CONSTANTS))), "the constants are the document's: " + fields);
        Constructor<?>[] constructors = LogRaft.class.getDeclaredConstructors();
        need(constructors.length == 1 && Modifier.isPublic(constructors[0].getModifiers())
            && constructors[0].getParameterCount() == 0, "one public constructor");
        int modifiers = LogRaft.class.getModifiers();
        need(Modifier.isPublic(modifiers) && Modifier.isFinal(modifiers), "the class is public and final");
        need(LogRaft.class.getPackageName().isEmpty(), "the class has no package");
    }

    private static void nestedClasses() {
        Set<String> open = new HashSet<>();
        for (String signature : FACE) {
            open.add(signature.substring(signature.indexOf(' ') + 1, signature.indexOf('(')));
        }
        Class<?>[] nested = LogRaft.class.getDeclaredClasses();
        need(nested.length <= 11, "at most some twelve classes");
        for (Class<?> each : nested) {
            int modifiers = each.getModifiers();
            need(Modifier.isStatic(modifiers) && !Modifier.isPublic(modifiers), each + " is static and not public");
            need(each.getDeclaredFields().length <= 20, each + " has at most twenty fields");
            for (Method method : each.getDeclaredMethods()) {
                need(!open.contains(method.getName()), method + " bears no name of the face");
            }
        }
        for (Method method : LogRaft.class.getDeclaredMethods()) {
            boolean isHidden = !isOpen(method) && !method.isSynthetic();
            need(!isHidden || !open.contains(method.getName()), method + " bears no name of the face");
            need(method.getParameterCount() <= 7, method + " has at most seven parameters");
        }
    }

    private static void source() throws IOException {
        String text = Files.readString(Path.of("src/main/java/LogRaft.java"));
        need(text.chars().allMatch(sign -> sign < 128), "the source has signs up to 127 alone");
        String code = text.replaceAll("(?s)/\\*.*?\\*/", " ").replaceAll("//[^\n]*", " ")
            .replaceAll("\"[^\"\n]*\"", "\"\"");
        for (String word : FORBIDDEN) {
            boolean isWord = Character.isLetter(word.charAt(0));
            String pattern = isWord ? "(?s).*\\b" + word + "\\b.*" : "(?s).*" + word + ".*";
            need(!code.matches(pattern), "the source does without '" + word + "'");
        }
        int start = 0;
        String[] lines = code.split("\n");
        for (int i = 0; i < lines.length; i++) {
            if (lines[i].matches(" {4,8}[A-Za-z].*\\) \\{")) {
                start = i;
            }
            if (lines[i].matches(" {4,8}\\}")) {
                need(i - start <= 60 || lines[i].matches(" {4}\\}"), "the method at line " + (start + 1) + " is short");
            }
        }
    }

    private static Object argumentOf(Class<?> type, Random random) {
        if (type == boolean.class) {
            return random.nextBoolean();
        }
        if (type == char.class) {
            return random.nextInt(3) == 0 ? SIGNS[random.nextInt(SIGNS.length)] : (char) random.nextInt(130);
        }
        return random.nextInt(2) == 0 ? NUMBERS[random.nextInt(NUMBERS.length)] : random.nextInt(6);
    }

    /** Calls of all methods, with fitting and with wild arguments, on objects of all ages. */
    private static void wildCalls() {
        Method[] methods = LogRaft.class.getDeclaredMethods();
        Arrays.sort(methods, (one, other) -> signatureOf(one).compareTo(signatureOf(other)));
        for (int run = 0; run < 1000; run++) {
            Random random = new Random(run);
            LogRaft x = new LogRaft();
            int crew = run % 7;
            for (int i = 0; i < crew; i++) {
                x.driver(1 + random.nextInt(9));
            }
            // What an object answers after its 512th call is free.
            for (int call = crew; call < 512; call++) {
                Method method = methods[random.nextInt(methods.length)];
                boolean isClear = method.getName().equals("clear");
                if (Modifier.isPublic(method.getModifiers()) && (!isClear || random.nextInt(30) == 0)) {
                    callWildly(x, method, random);
                }
            }
        }
    }

    private static void callWildly(LogRaft x, Method method, Random random) {
        Object[] arguments = new Object[method.getParameterCount()];
        for (int i = 0; i < arguments.length; i++) {
            arguments[i] = argumentOf(method.getParameterTypes()[i], random);
        }
        try {
            Object answer = method.invoke(x, arguments);
            if (answer instanceof Integer number) {
                need(number >= -4, method.getName() + " answers a number or a code: " + number);
            }
        } catch (InvocationTargetException thrown) {
            need(false, method.getName() + Arrays.toString(arguments) + " threw " + thrown.getCause());
        } catch (IllegalAccessException refused) {
            need(false, method.getName() + " can be called");
        }
    }
}
