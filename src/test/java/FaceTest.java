import java.io.IOException;
import java.lang.reflect.Constructor;
import java.lang.reflect.Field;
import java.lang.reflect.Method;
import java.lang.reflect.Modifier;
import java.nio.file.Files;
import java.nio.file.Path;
import java.util.NoSuchElementException;
import java.util.Set;
import java.util.TreeSet;
import java.util.regex.Matcher;
import java.util.regex.Pattern;

/** "The public face", and the rules of LANGUAGE.md that can be seen from outside the methods. */
public final class FaceTest {
    /** As the document writes it; numbers are ints, but for the calls named here. */
    private static final String[] INT_CALLS = {"feed 5", "land 1", "fault 0", "where 0", "whose 2", "shared 0", "free 0", "house 2",
        "skin 3", "warm 2", "light 2", "heir 2", "fits 1", "door 1", "costs 2", "way 2", "through 2", "breaks 2", "round 2",
        "in 3", "skinsIn 1", "meet 3", "falls 3", "room 1", "first 1", "firstAt 2", "heads 2", "takes 1", "worth 1", "orders 0",
        "order 2", "soonest 1", "latest 1", "surely 2", "years 1", "build 5", "take 1", "mark 0", "stone 2", "led 1", "size 1",
        "trouble 0"};
    private static final String[] BOOLEAN_CALLS = {"fill 2", "lock 3", "move 2", "give 3", "seed 1", "undo 0", "back 1"};

    private static final int MOST_CLASSES = 12;
    private static final int MOST_FIELDS = 20;
    private static final int MOST_PARAMETERS = 7;
    private static final int LONGEST_METHOD = 60;
    private static final String SOURCE = "src/main/java/YearSkins.java";
    private static final Pattern METHOD = Pattern.compile("^( {4}| {8})[a-z][^=;]*\\) (throws \\w+ )?\\{$");

    public static void main(String[] args) throws IOException {
        theClass();
        constants();
        calls();
        exceptions();
        membersOfItsOwn();
        classesWithin();
        String code = codeAlone(Files.readString(Path.of(SOURCE)));
        wordsLeftOut(code);
        methodsAreShort(code);
        Check.end();
    }

    private static void theClass() {
        Class<?> face = YearSkins.class;
        Check.due("public", Modifier.isPublic(face.getModifiers()), true);
        Check.due("final", Modifier.isFinal(face.getModifiers()), true);
        Check.same("package", face.getPackageName(), "");
        Check.same("class above", face.getSuperclass().getName(), "java.lang.Object");
        Check.due("interfaces", face.getInterfaces().length, 0);
        Constructor<?>[] made = face.getDeclaredConstructors();
        Check.due("constructors", made.length, 1);
        Check.due("constructor's numbers", made[0].getParameterCount(), 0);
        Check.due("constructor is public", Modifier.isPublic(made[0].getModifiers()), true);
        Check.due("constructor's exceptions", made[0].getExceptionTypes().length, 0);
    }

    private static void constants() {
        Check.due("NONE", YearSkins.NONE, -1);
        for (Field field : YearSkins.class.getDeclaredFields()) {
            int how = field.getModifiers();
            boolean none = field.getName().equals("NONE");
            Check.due(field + " is public", Modifier.isPublic(how), none);
            Check.due(field + " is private", Modifier.isPrivate(how), !none);
            if (none) {
                Check.same("NONE's sort", field.getType() + " " + Modifier.toString(how), "int public static final");
            }
        }
    }

    private static void calls() {
        Set<String> due = new TreeSet<>();
        for (String call : INT_CALLS) {
            due.add("int " + call);
        }
        for (String call : BOOLEAN_CALLS) {
            due.add("boolean " + call);
        }
        Set<String> found = new TreeSet<>();
        for (Method method : YearSkins.class.getDeclaredMethods()) {
            if (!Modifier.isPrivate(method.getModifiers())) {
                found.add(method.getReturnType() + " " + method.getName() + " " + method.getParameterCount());
                Check.same(method + " is", Modifier.toString(method.getModifiers()), "public");
                for (Class<?> number : method.getParameterTypes()) {
                    Check.same(method + " takes", number.getName(), "int");
                }
            }
        }
        Check.same("calls", found.toString(), due.toString());
        Check.due("how many calls", found.size(), 49);
    }

    private static void exceptions() {
        for (Method method : YearSkins.class.getDeclaredMethods()) {
            Class<?>[] thrown = method.getExceptionTypes();
            boolean led = method.getName().equals("led");
            Check.due(method + " tells exceptions", thrown.length, led ? 1 : 0);
            if (led) {
                Check.due("led tells the one", thrown[0] == NoSuchElementException.class, true);
            }
        }
    }

    /** Rules 1 and 5: no private method by a call's name, no static state. */
    private static void membersOfItsOwn() {
        Set<String> names = new TreeSet<>();
        for (Method method : YearSkins.class.getMethods()) {
            names.add(method.getName());
        }
        for (Class<?> one : allClasses()) {
            for (Method method : one.getDeclaredMethods()) {
                if (one != YearSkins.class || Modifier.isPrivate(method.getModifiers())) {
                    Check.due(method + " bears a call's name", names.contains(method.getName()), false);
                }
                Check.due(method + " takes seven at most", method.getParameterCount() <= MOST_PARAMETERS, true);
            }
            for (Field field : one.getDeclaredFields()) {
                int how = field.getModifiers();
                Check.due(field + " is final if static", !Modifier.isStatic(how) || Modifier.isFinal(how), true);
            }
        }
    }

    private static Class<?>[] allClasses() {
        Class<?>[] within = YearSkins.class.getDeclaredClasses();
        Class<?>[] all = new Class<?>[within.length + 1];
        System.arraycopy(within, 0, all, 1, within.length);
        all[0] = YearSkins.class;
        return all;
    }

    private static void classesWithin() {
        Check.due("twelve classes at most", allClasses().length <= MOST_CLASSES, true);
        for (Class<?> one : YearSkins.class.getDeclaredClasses()) {
            int how = one.getModifiers();
            Check.due(one + " is static", Modifier.isStatic(how), true);
            Check.due(one + " is public or protected", Modifier.isPublic(how) || Modifier.isProtected(how), false);
            Check.due(one + " holds classes", one.getDeclaredClasses().length, 0);
        }
        for (Class<?> one : allClasses()) {
            int fields = 0;
            for (Field field : one.getDeclaredFields()) {
                fields += Modifier.isStatic(field.getModifiers()) ? 0 : 1;
            }
            Check.due(one + " has twenty fields at most", fields <= MOST_FIELDS, true);
        }
    }

    /** The text without its remarks, its texts emptied. */
    private static String codeAlone(String source) {
        return source.replaceAll("(?s)/\\*.*?\\*/", "").replaceAll("//[^\n]*", "").replaceAll("\"[^\"\n]*\"", "\"\"");
    }

    private static void wordsLeftOut(String code) {
        String[] words = {"package", "try", "catch", "finally", "synchronized", "assert", "native", "volatile", "transient", "double",
            "float", "protected", "yield", "var", "System\\.out", "System\\.err", "System\\.exit", "Thread", "Random", "Object",
            "toString", "hashCode", "getClass", "addExact", "multiplyExact"};
        for (String word : words) {
            Check.due(word + " stands in the class", Pattern.compile("\\b" + word + "\\b").matcher(code).find(), false);
        }
        Check.due("lambda", code.contains("->"), false);
        Check.due("method reference", code.contains("::"), false);
        Check.due("static block", Pattern.compile("static\\s*\\{").matcher(code).find(), false);
        Matcher imports = Pattern.compile("import ([^;]*);").matcher(code);
        while (imports.find()) {
            Check.same("import", imports.group(1), "java.util.NoSuchElementException");
        }
        Matcher thrown = Pattern.compile("throw new (\\w+)").matcher(code);
        while (thrown.find()) {
            Check.same("thrown", thrown.group(1), "NoSuchElementException");
        }
    }

    private static void methodsAreShort(String code) {
        String[] lines = code.split("\n", -1);
        int begun = -1;
        String indent = "";
        int seen = 0;
        for (int i = 0; i < lines.length; i++) {
            Matcher head = METHOD.matcher(lines[i]);
            if (begun < 0 && head.find()) {
                begun = i;
                indent = head.group(1);
                seen++;
            } else if (begun >= 0 && lines[i].equals(indent + "}")) {
                Check.due("lines of " + lines[begun].strip() + " are sixty at most", i - begun < LONGEST_METHOD, true);
                begun = -1;
            }
        }
        Check.due("methods were seen", seen > 100, true);
    }
}
