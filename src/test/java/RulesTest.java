import java.lang.reflect.Constructor;
import java.lang.reflect.Field;
import java.lang.reflect.Method;
import java.lang.reflect.Modifier;
import java.nio.file.Files;
import java.nio.file.Path;
import java.util.ArrayList;
import java.util.Arrays;
import java.util.List;
import java.util.TreeSet;
import java.util.regex.Matcher;
import java.util.regex.Pattern;

/** What a test can see of the document's face and of LANGUAGE.md; it is run from the root of the project. */
public final class RulesTest {
    private static final String[] FACE = {
        "picture()", "place(int,int,int,int,int)", "unplace(int)", "led(int,boolean,int,boolean)",
        "miss(int,boolean,boolean)", "doubt(int)", "mark(int,int,int,int,int,int)", "as(int,int)", "at(int,boolean)",
        "agree(int,int)", "group(int)", "groups()", "rivals(int)", "sign(int)", "blank()", "wrong()", "is(int)",
        "field(int,int,int)", "look(int,int,int,boolean)", "belief(int,boolean)", "showing(int,int,int,boolean)",
        "dig(int,boolean)", "plan(int,int,int)", "brings(int,int,int)", "sheet(int,int,int)", "put(int,int,int)",
        "copy(int,int,int,int,int)", "text(int)", "undo()", "all(int)"};
    private static final String[] REFUSED = {"throw", "throws", "try", "catch", "finally", "synchronized", "assert",
        "transient", "volatile", "native", "System.out", "var"};
    /** What the class uses of the library that rule 4 lists, and no more. */
    private static final List<String> LIBRARY = List.of("Arrays.fill", "Integer.bitCount", "Math.abs", "Math.floorDiv",
        "Math.max", "Math.min", "System.arraycopy", "Arrays");
    private static final Pattern TYPE_CALL = Pattern.compile("\\b[A-Z]\\w*[a-z]\\w*(\\.\\w+\\b)?");
    private static final Pattern MADE = Pattern.compile("\\bnew (\\w+)");
    private static final List<String> MADE_ROWS = List.of("int", "long", "boolean");
    private static final int MOST_CLASSES = 12;
    private static final int MOST_LINES = 60;
    private static final int MOST_FIELDS = 20;

    private static int wrong;

    private static void hold(boolean holds, String what) {
        if (!holds) {
            wrong++;
            System.out.println("not so: " + what);
        }
    }

    private static void face() {
        TreeSet<String> due = new TreeSet<>(Arrays.asList(FACE));
        TreeSet<String> names = new TreeSet<>();
        for (String call : FACE) {
            names.add(call.substring(0, call.indexOf('(')));
        }
        TreeSet<String> found = new TreeSet<>();
        for (Method method : CornDesk.class.getDeclaredMethods()) {
            if (Modifier.isPublic(method.getModifiers())) {
                List<String> types = new ArrayList<>();
                for (Class<?> type : method.getParameterTypes()) {
                    types.add(type.getName());
                }
                found.add(method.getName() + "(" + String.join(",", types) + ")");
                hold(method.getReturnType() == long.class, method + " answers a long");
            } else if (!method.isSynthetic()) {
                hold(Modifier.isPrivate(method.getModifiers()), method + " is private");
                hold(!names.contains(method.getName()), method + " bears no name of a public one");
            }
        }
        hold(found.equals(due), "the face is the document's: " + found);
        hold(Modifier.isFinal(CornDesk.class.getModifiers()), "the class is final");
        Constructor<?>[] constructors = CornDesk.class.getDeclaredConstructors();
        hold(constructors.length == 1 && constructors[0].getParameterCount() == 0
                && Modifier.isPublic(constructors[0].getModifiers()), "one public constructor");
    }

    private static void members(Class<?> type) {
        int fields = 0;
        for (Field field : type.getDeclaredFields()) {
            boolean fixed = Modifier.isStatic(field.getModifiers());
            hold(!fixed || Modifier.isFinal(field.getModifiers()), field + " is final");
            hold(Modifier.isPrivate(field.getModifiers()), field + " is private");
            fields += fixed ? 0 : 1;
        }
        hold(fields <= MOST_FIELDS, type + " has few fields");
        for (Method method : type.getDeclaredMethods()) {
            hold(method.getParameterCount() <= 7, method + " takes at most seven");
        }
    }

    private static void classes() {
        Class<?>[] inside = CornDesk.class.getDeclaredClasses();
        hold(inside.length + 1 <= MOST_CLASSES, "at most twelve classes");
        members(CornDesk.class);
        for (Class<?> type : inside) {
            hold(Modifier.isStatic(type.getModifiers()), type + " is static");
            members(type);
            for (Method method : type.getDeclaredMethods()) {
                for (String call : FACE) {
                    hold(!call.startsWith(method.getName() + "("), method + " bears no name of a public one");
                }
            }
        }
    }

    /** Each name of a type, with what is called on it, is of the class's own or of the library; so is all that is made. */
    private static void library(String bare) {
        TreeSet<String> own = new TreeSet<>(List.of("CornDesk"));
        for (Class<?> type : CornDesk.class.getDeclaredClasses()) {
            own.add(type.getSimpleName());
        }
        for (Matcher used = TYPE_CALL.matcher(bare); used.find();) {
            String type = used.group().split("\\.")[0];
            hold(own.contains(type) || LIBRARY.contains(used.group()), used.group() + " is own or of the library");
        }
        for (Matcher made = MADE.matcher(bare); made.find();) {
            hold(own.contains(made.group(1)) || MADE_ROWS.contains(made.group(1)), made.group(1) + " may be made");
        }
        hold(!bare.contains("[][]") && !bare.contains("\""), "no rows of rows, no texts");
    }

    private static void source() throws java.io.IOException {
        String text = Files.readString(Path.of("src/main/java/CornDesk.java"));
        String bare = text.replaceAll("(?s)/\\*.*?\\*/", " ").replaceAll("//[^\n]*", " ");
        for (String word : REFUSED) {
            hold(!bare.matches("(?s).*\\b" + word.replace(".", "\\.") + "\\b.*"), "the source has no " + word);
        }
        library(bare.replace("import java.util.Arrays;", ""));
        hold(!bare.contains("->") && !bare.contains("::"), "no lambda, no method reference");
        int lines = 0;
        for (String line : text.split("\n")) {
            if (line.startsWith("import ")) {
                hold(line.equals("import java.util.Arrays;"), line + " is of the library that is listed");
            }
            lines = line.matches("( {4}| {8})\\w.*\\(.*\\{") ? 0 : lines + 1;
            hold(!line.matches("( {4}| {8})}") || lines <= MOST_LINES, "a method is short, ahead of: " + line);
        }
    }

    public static void main(String[] args) throws java.io.IOException {
        face();
        classes();
        source();
        System.out.println(wrong == 0 ? "the rules hold" : wrong + " rules do not hold");
        if (wrong != 0) {
            System.exit(1);
        }
    }
}
