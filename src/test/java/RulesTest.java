import java.lang.reflect.Constructor;
import java.lang.reflect.Field;
import java.lang.reflect.Method;
import java.lang.reflect.Modifier;
import java.nio.file.Files;
import java.nio.file.Path;
import java.util.Set;
import java.util.TreeSet;
import java.util.regex.Matcher;
import java.util.regex.Pattern;

/** The document's face, to the letter, and the rules of LANGUAGE.md that a look at the source can tell. */
public final class RulesTest {
    private static final String[] METHODS = {
        "int setSegment(int,int,int,int,int)", "int fill(int,int,int,int)", "int setLine(int,int,int,int,int)",
        "int miss(int,boolean)", "int setStandard(int)", "int type(char)", "int clearText()", "int readBars(int)",
        "int sample(int,int)", "int set(int,int)", "int decode()", "int line(int,int)", "int luma(int,int)",
        "int combed(int,int)", "float u(int,int)", "float v(int,int)", "int thousandths(int,int,int)",
        "float reference(int,int)", "int motion(int,int)", "int count(int)"};
    private static final String[] CONSTANTS = {"BAD_VALUE", "FULL", "NONE", "UNKNOWN"};
    private static final String[] FORBIDDEN = {"->", "::", "\\bimport\\b", "\\bpackage\\b", "\\bcatch\\b", "\\btry\\b",
        "\\bthrow\\b", "\\bfinally\\b", "\\bsynchronized\\b", "\\bassert\\b", "\\bstatic\\s*\\{", "\\bvar\\b",
        "[a-z]Exact\\(", "\\bdouble\\b", "System\\.(?!arraycopy)", "Math\\.(?!abs\\(|floorDiv\\(|floorMod\\()",
        "\\bString\\b", "\\btransient\\b", "\\bvolatile\\b", "\\bnative\\b"};

    public static void main(String[] args) throws Exception {
        face();
        if (args.length > 0) {
            source(Files.readString(Path.of(args[0])));
        } else {
            require("the path of the source is given", false);
        }
        Check.finish();
    }

    private static void face() {
        Class<?> face = CompositeDecoder.class;
        require("public and final", face.getModifiers() == (Modifier.PUBLIC | Modifier.FINAL));
        Set<String> methods = new TreeSet<>();
        Set<String> names = new TreeSet<>();
        for (Method m : face.getDeclaredMethods()) {
            if (!Modifier.isPrivate(m.getModifiers())) {
                require(m.getName() + " is public alone", m.getModifiers() == Modifier.PUBLIC);
                methods.add(shapeOf(m));
                names.add(m.getName());
            }
        }
        require("the methods are " + methods, methods.equals(Set.of(METHODS)));
        Set<String> constants = new TreeSet<>();
        for (Field f : face.getDeclaredFields()) {
            if (!Modifier.isPrivate(f.getModifiers())) {
                require(f + " is a constant", f.getType() == int.class
                    && f.getModifiers() == (Modifier.PUBLIC | Modifier.STATIC | Modifier.FINAL));
                constants.add(f.getName());
            }
        }
        require("the constants are " + constants, constants.equals(Set.of(CONSTANTS)));
        Constructor<?>[] constructors = face.getDeclaredConstructors();
        require("one constructor", constructors.length == 1 && constructors[0].getParameterCount() == 0
            && constructors[0].getModifiers() == Modifier.PUBLIC);
        Class<?>[] inside = face.getDeclaredClasses();
        require("at most twelve classes", inside.length <= 11);
        noClashes(face, names, true);
        for (Class<?> c : inside) {
            require(c + " is static", Modifier.isStatic(c.getModifiers()) && !Modifier.isPublic(c.getModifiers()));
            noClashes(c, names, false);
        }
    }

    private static void noClashes(Class<?> c, Set<String> names, boolean isFace) {
        for (Method m : c.getDeclaredMethods()) {
            boolean own = isFace && Modifier.isPublic(m.getModifiers());
            require(m + " bears no name of the face", own || !names.contains(m.getName()));
            require(m + " takes at most seven parameters", m.getParameterCount() <= 7);
        }
        int fields = 0;
        for (Field f : c.getDeclaredFields()) {
            if (!Modifier.isStatic(f.getModifiers())) {
                fields++;
            } else {
                require(f + " is final", Modifier.isFinal(f.getModifiers()));
            }
        }
        require(c + " has at most twenty fields", fields <= 20);
    }

    private static String shapeOf(Method m) {
        StringBuilder shape = new StringBuilder(m.getReturnType() + " " + m.getName() + "(");
        for (Class<?> type : m.getParameterTypes()) {
            shape.append(shape.charAt(shape.length() - 1) == '(' ? "" : ",").append(type);
        }
        return shape.append(")").toString();
    }

    private static void source(String whole) {
        String text = whole.replaceAll("(?s)/\\*.*?\\*/", " ").replaceAll("//[^\n]*", " ");
        for (String bad : FORBIDDEN) {
            Matcher m = Pattern.compile(bad).matcher(text);
            require("no " + bad, !m.find());
        }
        // All arrays and objects are made once, by the constructor: a decoding takes no room.
        Matcher made = Pattern.compile("\\n([^\\n]*)\\bnew\\b").matcher(text);
        while (made.find()) {
            require("made in a field: " + made.group(1).trim(), made.group(1).trim().startsWith("private final"));
        }
    }

    private static void require(String what, boolean holds) {
        Check.due(what, holds ? 1 : 0, 1);
    }
}
