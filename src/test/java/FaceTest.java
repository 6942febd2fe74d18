import java.lang.reflect.Constructor;
import java.lang.reflect.Field;
import java.lang.reflect.Method;
import java.lang.reflect.Modifier;
import java.nio.file.Files;
import java.nio.file.Path;
import java.util.Map;
import java.util.TreeMap;
import java.util.regex.Matcher;
import java.util.regex.Pattern;

/** The public face of the document, and the rules of LANGUAGE.md that a look at class and text can tell. */
public final class FaceTest {
    private static final Due D = new Due();
    /** Each public method with how many ints it takes. */
    private static final String FACE = "feed5 end1 rank3 feast2 wedding3 on3 gown7 seal2 about2 like3 counts2 act1 fault1 told2 rule3"
        + " force1 fine3 broken4 letter4 judge1 lettered2 person2 price2 alter3 best3 worn5 count1";
    private static final String[] BANNED = {"throw", "throws", "try", "catch", "synchronized", "assert", "finally", "package", "native",
        "volatile", "transient", "System.out", "Exact", "::", "->", "@", "Object", "hashCode", "toString", "record"};

    public static void main(String[] args) throws Exception {
        constants();
        methods();
        nested();
        text();
        constructors();
        lengths();
        D.close();
    }

    private static void constants() throws Exception {
        D.due("public and final", GownCourt.class.getModifiers() & (Modifier.PUBLIC | Modifier.FINAL), Modifier.PUBLIC | Modifier.FINAL);
        D.due("NONE", GownCourt.NONE, -1);
        D.due("RANGE", GownCourt.RANGE, -2);
        D.due("FULL", GownCourt.FULL, -3);
        D.due("STATE", GownCourt.STATE, -4);
        int open = 0;
        for (Field f : GownCourt.class.getDeclaredFields()) {
            open += Modifier.isPrivate(f.getModifiers()) ? 0 : 1;
        }
        D.due("fields that are not private", open, 4);
    }

    private static void methods() {
        Map<String, Integer> due = new TreeMap<>();
        for (String m : FACE.split(" ")) {
            due.put(m.substring(0, m.length() - 1), m.charAt(m.length() - 1) - '0');
        }
        int found = 0;
        for (Method m : GownCourt.class.getDeclaredMethods()) {
            Integer ints = due.get(m.getName());
            if (ints == null) {
                D.due(m.getName() + " is private", Modifier.isPrivate(m.getModifiers()) ? 1 : 0, 1);
            } else {
                found++;
                D.due(m.getName() + " is public", Modifier.isPublic(m.getModifiers()) ? 1 : 0, 1);
                D.due(m.getName() + " takes", m.getParameterCount(), ints);
                D.due(m.getName() + " answers an int", m.getReturnType() == int.class ? 1 : 0, 1);
            }
        }
        D.due("methods of the face", found, due.size());
        for (Constructor<?> c : GownCourt.class.getDeclaredConstructors()) {
            D.due("the constructor", Modifier.isPublic(c.getModifiers()) && c.getParameterCount() == 0 ? 1 : 0, 1);
        }
        for (Class<?> c : GownCourt.class.getDeclaredClasses()) {
            for (Method m : c.getDeclaredMethods()) {
                D.due(c.getName() + "." + m.getName() + " has a name of the face", due.containsKey(m.getName()) ? 1 : 0, 0);
            }
        }
    }

    private static void nested() {
        int classes = 1;
        for (Class<?> c : GownCourt.class.getDeclaredClasses()) {
            classes++;
            D.due(c.getName() + " is static", Modifier.isStatic(c.getModifiers()) ? 1 : 0, 1);
            D.due(c.getName() + " is inside alone", c.getModifiers() & (Modifier.PUBLIC | Modifier.PROTECTED), 0);
            fields(c);
        }
        fields(GownCourt.class);
        D.due("at most twelve classes", Math.max(classes, 12), 12);
    }

    private static void fields(Class<?> c) {
        int own = 0;
        for (Field f : c.getDeclaredFields()) {
            if (Modifier.isStatic(f.getModifiers())) {
                D.due(c.getName() + "." + f.getName() + " is final", Modifier.isFinal(f.getModifiers()) ? 1 : 0, 1);
            } else {
                own++;
            }
        }
        D.due(c.getName() + " has at most twenty fields", Math.max(own, 20), 20);
    }

    private static String code() throws Exception {
        String source = Files.readString(Path.of("src/main/java/GownCourt.java"));
        return source.replaceAll("(?s)/\\*.*?\\*/", "").replaceAll("//[^\\n]*", "").replaceAll("\"[^\"]*\"", "\"\"");
    }

    private static void text() throws Exception {
        String code = code();
        for (String word : BANNED) {
            boolean letters = Character.isLetter(word.charAt(0));
            Matcher m = Pattern.compile(letters ? "\\b" + Pattern.quote(word) + "\\b" : Pattern.quote(word)).matcher(code);
            D.due("'" + word + "' stands in the class", m.find() ? 1 : 0, 0);
        }
        Matcher m = Pattern.compile("(?m)^( +)(?:[\\w\\[\\]]+ )+\\w+\\([^;{]*\\) \\{\\n(?s:.*?)\\n\\1\\}").matcher(code);
        int methods = 0;
        while (m.find()) {
            methods++;
            int lines = m.group().split("\\n").length;
            D.due("lines of a method, at most sixty: " + m.group().split("\\n")[0].trim(), Math.max(lines, 60), 60);
        }
        D.due("methods were found", Math.min(methods, 100), 100);
    }

    /** Rule 12: a constructor hands out nothing of the object that it makes; its fields' first values are part of it. */
    private static void constructors() throws Exception {
        Matcher field = Pattern.compile("(?m)^ +private (?:final )?\\w+ (\\w+) = new \\w+\\((.*)\\);$").matcher(code());
        int fields = 0;
        while (field.find()) {
            fields++;
            boolean constants = field.group(2).matches("[A-Z_0-9*, ]*");
            D.due("the first value of '" + field.group(1) + "' is made of constants alone", constants ? 1 : 0, 1);
        }
        D.due("fields made with their object were found", Math.min(fields, 9), 9);
        Matcher body = Pattern.compile("(?m)^( +)(?:public )?([A-Z]\\w+)\\([^)]*\\) \\{\\n((?s:.*?))\\n\\1\\}").matcher(code());
        int bodies = 0;
        while (body.find()) {
            bodies++;
            boolean calls = Pattern.compile("\\w\\(").matcher(body.group(3).replace("Math.max(", "")).find();
            D.due("a call stands in the constructor of " + body.group(2), calls ? 1 : 0, 0);
        }
        D.due("constructors were found", Math.min(bodies, 5), 5);
    }

    /** The length of a new array is a constant, or was made 0 at least just before. */
    private static void lengths() throws Exception {
        String code = code();
        Matcher made = Pattern.compile("new \\w+\\[(.*?)\\]").matcher(code);
        int arrays = 0;
        while (made.find()) {
            arrays++;
            String length = made.group(1);
            boolean tested = length.matches("[A-Z_]+") || code.contains("int " + length + " = Math.max(0, ");
            D.due("the length '" + length + "' of a new array is tested", tested ? 1 : 0, 1);
        }
        D.due("new arrays were found", Math.min(arrays, 10), 10);
    }
}
