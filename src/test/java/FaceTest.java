import java.io.IOException;
import java.lang.reflect.Constructor;
import java.lang.reflect.Field;
import java.lang.reflect.Method;
import java.lang.reflect.Modifier;
import java.nio.file.Files;
import java.nio.file.Path;
import java.util.ArrayList;
import java.util.Arrays;
import java.util.List;
import java.util.TreeSet;
import java.util.regex.Matcher;
import java.util.regex.Pattern;

/** The class has the document's face and no other member that is not private. */
public final class FaceTest {
    private static final Path DOCUMENT = Path.of("..", "shared", "DOC.md");
    private static final Pattern METHOD =
        Pattern.compile("\n    public (\\w+ \\w+)\\((.*?)\\)(?: throws (.*?))?;");
    private static final String LINE = " IndexOutOfBoundsException";
    private static final String NONE = " NoSuchElementException";
    private static final String SIDE = " IllegalArgumentException";
    private static final String STATE = " IllegalStateException";
    private static final String NOT = " UnsupportedOperationException";
    private static final String[] FACE = {
        "int addLine(int,int,char,int)" + SIDE + STATE + NOT, "char setOrder(int,char)" + LINE + SIDE + STATE,
        "int rally(int)" + LINE + STATE + NOT, "int turn()", "int lineCount()", "int sideOf(int)" + LINE,
        "int laneOf(int)" + LINE + NONE, "int columnOf(int)" + LINE + NONE, "char kindOf(int)" + LINE,
        "int strengthOf(int)" + LINE, "int moraleOf(int)" + LINE, "char orderOf(int)" + LINE + STATE,
        "boolean isStanding(int)" + LINE, "boolean isRouted(int)" + LINE, "int routedTurns(int)" + LINE,
        "int lineIn(int,int)" + LINE + NONE, "int attackOf(int)" + LINE, "int counterOf(int)" + LINE,
        "int supportOf(int)" + LINE + NONE, "int supportByLines(int)" + LINE + NONE,
        "int enemyAhead(int)" + LINE + NONE, "int enemyByDistances(int)" + LINE + NONE, "int fightCount()",
        "int turnsUntilFight()" + NONE, "int jarsOf(int)" + SIDE, "int strengthOfSide(int)" + SIDE,
        "int strengthByCells(int)" + SIDE, "int fallenOf(int)" + SIDE, "int frontOf(int,int)" + SIDE + NONE,
        "int leader()" + NONE, "int lineByStrength(int)" + NONE, "int turnCount()", "int writeLane(int)" + LINE,
        "char writtenAt(int)" + LINE, "double meanMorale() ArithmeticException",
        "float standingShare() ArithmeticException", "boolean isConsistent()", "int type(char)" + SIDE + STATE,
        "int execute()" + SIDE + STATE, "int errorPosition()" + NONE, "int failedCommand()" + NONE,
        "int undo()" + STATE, "int save()", "int restore()" + STATE};

    private FaceTest() {
    }

    public static void main(String[] args) throws IOException {
        if (Files.exists(DOCUMENT)) {
            String document = Files.readString(DOCUMENT);
            Check.due("the document's face", new TreeSet<>(Arrays.asList(FACE)), () -> documented(document));
        }
        Class<?> face = LineBattle.class;
        Check.due("public and final", Modifier.PUBLIC | Modifier.FINAL, face::getModifiers);
        Check.due("superclass", Object.class, face::getSuperclass);
        Check.due("interfaces", 0, () -> face.getInterfaces().length);
        Check.due("constructors", "[public LineBattle()]", () -> constructors(face));
        List<String> members = new ArrayList<>();
        TreeSet<String> publicNames = new TreeSet<>();
        for (Method m : face.getDeclaredMethods()) {
            if (!m.isSynthetic() && !Modifier.isPrivate(m.getModifiers())) {
                members.add(described(m));
                Check.due(m + " is public and nothing else", Modifier.PUBLIC, m::getModifiers);
                publicNames.add(m.getName());
            }
        }
        Check.due("methods", new TreeSet<>(Arrays.asList(FACE)), () -> new TreeSet<>(members));
        privateMembers(face, publicNames);
        for (Class<?> inside : face.getDeclaredClasses()) {
            Check.due(inside + " is private and static", true, () -> Modifier.isPrivate(inside.getModifiers())
                && Modifier.isStatic(inside.getModifiers()));
            privateMembers(inside, publicNames);
        }
        Check.finish("FaceTest");
    }

    private static void privateMembers(Class<?> owner, TreeSet<String> publicNames) {
        for (Method m : owner.getDeclaredMethods()) {
            if (!m.isSynthetic() && !Modifier.isPublic(m.getModifiers())) {
                Check.due(m + " bears the name of a public one", false, () -> publicNames.contains(m.getName()));
                Check.due(m + " takes at most 7 parameters", true, () -> m.getParameterCount() <= 7);
            }
        }
        for (Field f : owner.getDeclaredFields()) {
            int modifiers = f.getModifiers();
            boolean fits = owner != LineBattle.class || Modifier.isPrivate(modifiers);
            Check.due(f + " is private", true, () -> fits);
            Check.due(f + " is final, if static", true,
                () -> !Modifier.isStatic(modifiers) || Modifier.isFinal(modifiers));
        }
    }

    /** The methods of the document's face, as FACE has them. */
    private static TreeSet<String> documented(String document) {
        TreeSet<String> methods = new TreeSet<>();
        Matcher method = METHOD.matcher(document);
        while (method.find()) {
            String types = method.group(2).replaceAll(" \\w+(, |$)", "$1").replace(", ", ",");
            String thrown = method.group(3) == null ? "" : " " + method.group(3).replace(",", "");
            methods.add(method.group(1) + "(" + types + ")" + thrown);
        }
        return methods;
    }

    private static String constructors(Class<?> face) {
        List<String> all = new ArrayList<>();
        for (Constructor<?> c : face.getDeclaredConstructors()) {
            all.add(c.toString());
        }
        return all.toString();
    }

    private static String described(Method m) {
        StringBuilder sb = new StringBuilder(m.getReturnType().getName()).append(' ').append(m.getName()).append('(');
        for (int i = 0; i < m.getParameterCount(); i++) {
            sb.append(i == 0 ? "" : ",").append(m.getParameterTypes()[i].getName());
        }
        sb.append(')');
        for (Class<?> thrown : m.getExceptionTypes()) {
            sb.append(' ').append(thrown.getSimpleName());
        }
        return sb.toString();
    }
}
