import java.lang.reflect.Constructor;
import java.lang.reflect.Field;
import java.lang.reflect.Method;
import java.lang.reflect.Modifier;
import java.nio.file.Files;
import java.nio.file.Path;
import java.util.ArrayList;
import java.util.Arrays;
import java.util.List;
import java.util.TreeSet;
import java.util.regex.Matcher;
import java.util.regex.Pattern;

/** The face that the document gives, and those rules of LANGUAGE.md that can be read off the source or the class. */
public final class LanguageTest {
    private static final String[] FACE = {
        "append 1", "clearText 0", "firstError 0", "configure 0", "setPart 4", "removePart 2", "setUnits 2", "pin 2",
        "unpin 1", "setEncore 2", "moveSong 2", "adoptBest 0", "undo 0", "songCount 0", "kindOf 2", "tuningOf 2",
        "spareUnits 2", "changeOf 3", "changeCost 3", "changeoverCost 2", "songAt 1", "orderCost 0", "isAllowed 0",
        "dearestChangeover 0", "bestCost 0", "bestSongAt 1", "bestCostFrom 1", "bestOrderCount 0", "savingByUnit 1",
        "encoresWithin 1"};
    private static final String[] CONSTANTS = {
        "INVALID_ARGUMENT -1", "NOT_POSSIBLE -2", "CAPACITY_EXCEEDED -3", "NOT_FOUND -4", "LEFT 0", "RIGHT 1",
        "NOTHING 0", "PICK_UP 1", "PUT_DOWN 2", "EXCHANGE 3", "TAKE_SPARE 4", "RETUNE 5"};

    private static int wrong = 0;

    private static void complain(String what) {
        wrong++;
        System.out.println(what);
    }

    private static void dueSame(String what, TreeSet<String> got, String[] want) {
        if (!got.equals(new TreeSet<>(Arrays.asList(want)))) {
            complain(what + " are " + got);
        }
    }

    private static void face() throws IllegalAccessException {
        Class<?> face = SetlistPlanner.class;
        if (face.getModifiers() != (Modifier.PUBLIC | Modifier.FINAL)) {
            complain("the class is " + Modifier.toString(face.getModifiers()));
        }
        TreeSet<String> methods = new TreeSet<>();
        for (Method method : face.getDeclaredMethods()) {
            if (!Modifier.isPrivate(method.getModifiers())) {
                methods.add(method.getName() + " " + method.getParameterCount());
                if (method.getModifiers() != Modifier.PUBLIC || method.getReturnType() != int.class) {
                    complain(method + " is not as in the document");
                }
            }
        }
        dueSame("the methods that are not private", methods, FACE);
        TreeSet<String> constants = new TreeSet<>();
        for (Field field : face.getDeclaredFields()) {
            boolean isStatic = Modifier.isStatic(field.getModifiers());
            if (!Modifier.isPrivate(field.getModifiers())) {
                constants.add(field.getName() + " " + field.getInt(null));
            }
            if (isStatic && !Modifier.isFinal(field.getModifiers())) {
                complain(field + " is static, but not final");
            }
        }
        dueSame("the constants", constants, CONSTANTS);
        Constructor<?>[] constructors = face.getDeclaredConstructors();
        if (constructors.length != 1 || constructors[0].getParameterCount() != 0 || !Modifier.isPublic(constructors[0].getModifiers())) {
            complain("the constructors are " + Arrays.toString(constructors));
        }
    }

    private static void classesInside() {
        List<String> publicNames = new ArrayList<>();
        for (String method : FACE) {
            publicNames.add(method.substring(0, method.indexOf(' ')));
        }
        Class<?>[] inside = SetlistPlanner.class.getDeclaredClasses();
        if (inside.length > 12) {
            complain("there are " + inside.length + " classes inside");
        }
        for (Class<?> one : inside) {
            if (!Modifier.isStatic(one.getModifiers())) {
                complain(one + " is not static");
            }
            for (Method method : one.getDeclaredMethods()) {
                if (publicNames.contains(method.getName())) {
                    complain(method + " bears the name of a public method");
                }
                if (method.getParameterCount() > 7) {
                    complain(method + " has more than seven parameters");
                }
            }
        }
    }

    private static String withoutCommentsAndTexts(String source) {
        return source.replaceAll("(?s)/\\*.*?\\*/", "").replaceAll("//[^\n]*", "")
            .replaceAll("\"(\\\\.|[^\"\\\\])*\"", "\"\"").replaceAll("'(\\\\.|[^'\\\\])'", "' '");
    }

    private static void source() throws java.io.IOException {
        String source = Files.readString(Path.of("src/main/java/SetlistPlanner.java"));
        for (int i = 0; i < source.length(); i++) {
            if (source.charAt(i) > 126) {
                complain("a character of the source is beyond ASCII, at " + i);
            }
        }
        String code = withoutCommentsAndTexts(source);
        String forbidden = "\\b(throw|throws|try|catch|finally|synchronized|assert|import|package|volatile|native|var)\\b|->|::|@";
        Matcher word = Pattern.compile(forbidden).matcher(code);
        while (word.find()) {
            complain("the source has " + word.group());
        }
        Matcher library = Pattern.compile("\\b(System|Math|Integer|Long|Arrays|Thread|Runtime|Object|Class)\\.(\\w+)").matcher(code);
        List<String> known = List.of("System.arraycopy", "Math.max", "Math.min", "Math.abs", "Integer.bitCount");
        while (library.find()) {
            if (!known.contains(library.group())) {
                complain("the source calls " + library.group());
            }
        }
        methodLengths(source);
    }

    /** A method begins at a line that ends with ") {" one or two steps in, and ends at the brace below its start. */
    private static void methodLengths(String source) {
        String[] lines = source.split("\n");
        for (int i = 0; i < lines.length; i++) {
            Matcher start = Pattern.compile("( {4}| {8})[a-z].*\\b\\w+\\(.*\\) \\{").matcher(lines[i]);
            if (start.matches() && !lines[i].matches(" *(if|for|while|switch)\\b.*")) {
                int end = i;
                while (end < lines.length && !lines[end].equals(start.group(1) + "}")) {
                    end++;
                }
                if (end - i + 1 > 60) {
                    complain("a method of " + (end - i + 1) + " lines: " + lines[i].trim());
                }
            }
        }
    }

    public static void main(String[] args) throws Exception {
        face();
        classesInside();
        source();
        System.out.println(wrong == 0 ? "the rules are kept" : wrong + " rules are broken");
        if (wrong != 0) {
            System.exit(1);
        }
    }
}
