import java.io.IOException;
import java.lang.reflect.Constructor;
import java.lang.reflect.Field;
import java.lang.reflect.Method;
import java.lang.reflect.Modifier;
import java.nio.file.Files;
import java.nio.file.Paths;
import java.util.Arrays;
import java.util.HashSet;
import java.util.LinkedHashMap;
import java.util.Map;
import java.util.Set;
import java.util.TreeSet;
import java.util.regex.Matcher;
import java.util.regex.Pattern;

/**
 * Looks at the face by reflection, and searches the source for what LANGUAGE.md rules out. A search
 * of words is no proof: it catches slips.
 */
public final class LanguageTest {
    private static final String SOURCE = "src/main/java/HedgeCommittee.java";
    private static final String A = "IllegalArgumentException";
    private static final String S = "IllegalStateException";
    private static final String N = "NoSuchElementException";
    private static final String I = "IndexOutOfBoundsException";
    private static final String U = "UnsupportedOperationException";
    private static final String M = "ArithmeticException";

    private static final String[] FACE = {
        "int addHedge int int int " + A + " " + S, "int propose int int " + A + " " + S,
        "int amend int int int " + N + " " + A + " " + S, "int prune int int " + N + " " + A,
        "int regrow int " + N + " " + S, "char vote int " + N + " " + S, "int passSeason",
        "int hedgeCount", "int leaves int " + I, "int thorns int " + I,
        "int hedgeAtRank int " + N, "int leavesInFavour int " + N,
        "boolean wouldVeto int int " + I + " " + N, "int motionCount", "int motionAt int " + I,
        "int tone int " + N, "int weight int " + N, "int parent int " + N, "int depth int " + N,
        "boolean isTip int " + N, "int branchSize int " + N, "int lastTip int " + N,
        "int motionAtRank int " + I, "int commonMotion int int " + N + " " + U,
        "int commonMotionByRows int int " + N + " " + U, "int pathSize int int " + N + " " + U,
        "int longestPath int " + N, "int longestPathBySweeps int " + N, "int bestWorth",
        "int bestWorthBySets", "int goodSets", "int season", "int minutesIn int " + A,
        "int adoptedWeight", "int weightTotal", "int weightByAccounts", "double meanLeaves " + M,
        "float carriedShare " + M, "boolean isConsistent", "int append char " + S,
        "int run " + A + " " + U, "int errorPosition " + N, "int failedCommand " + N,
        "int writeBranch int " + N, "char outputAt int " + I, "int undo " + S, "void save",
        "void restore " + S};

    /** What the interface says ahead of calls, and the calls that stand behind it. */
    private static final String[] HEADINGS = {
        "changes: addHedge propose amend prune regrow vote passSeason",
        "queries about hedges: hedgeCount leaves thorns hedgeAtRank leavesInFavour wouldVeto",
        "queries about motions: motionCount motionAt tone weight parent depth isTip branchSize"
            + " lastTip motionAtRank",
        "queries about trees: commonMotion commonMotionByRows pathSize longestPath"
            + " longestPathBySweeps bestWorth bestWorthBySets goodSets",
        "totals: season minutesIn adoptedWeight weightTotal weightByAccounts meanLeaves"
            + " carriedShare isConsistent",
        "programs: append run errorPosition failedCommand",
        "output: writeBranch outputAt",
        "undo and snapshot: undo save restore"};

    private static final String[] RULED_OUT = {"->", "::", "\\bfinally\\b", "\\bsynchronized\\b",
        "\\bassert\\b", "Exact\\(", "\\bextends \\w*Exception", "catch \\((Runtime)?Exception\\b",
        "catch \\((Throwable|Error)\\b", "catch \\((\\w*IndexOutOfBounds|NullPointer|Arithmetic"
            + "|ClassCast|NegativeArraySize|ArrayStore)Exception\\b", "getMessage", "\\.hashCode\\(",
        "\\bpackage\\b", "\\bstatic \\{", "\\bprotected\\b", "System\\.(?!arraycopy)", "\\bThread\\b",
        "java\\.(io|net|nio|time)", "NaN", "\" \\+", "\\+ \"", "\\bvar\\b", "while \\(true\\)",
        "for \\(;;\\)"};

    private LanguageTest() {
    }

    public static void main(String[] args) throws IOException {
        faceIsTheDocuments();
        classesInsideAreClosed();
        String source = new String(Files.readAllBytes(Paths.get(SOURCE)));
        headingsStandAheadOfTheirCalls(source);
        sourceKeepsToTheLanguage(source);
        Check.finish();
    }

    private static void faceIsTheDocuments() {
        Class<?> face = HedgeCommittee.class;
        Check.equal("public and final", Modifier.isPublic(face.getModifiers())
                && Modifier.isFinal(face.getModifiers()), true);
        Set<String> found = new TreeSet<>();
        Set<String> publicNames = new HashSet<>();
        for (Method method : face.getDeclaredMethods()) {
            if (!Modifier.isPrivate(method.getModifiers())) {
                found.add(signature(method));
                publicNames.add(method.getName());
            }
        }
        Check.equal("the methods", found, new TreeSet<>(Arrays.asList(FACE)));
        for (Method method : face.getDeclaredMethods()) {
            if (Modifier.isPrivate(method.getModifiers())) {
                Check.equal("a public name on private " + method.getName(),
                        publicNames.contains(method.getName()), false);
            }
        }
        for (Field field : face.getDeclaredFields()) {
            Check.equal("private " + field.getName(), Modifier.isPrivate(field.getModifiers()), true);
        }
        Constructor<?>[] constructors = face.getDeclaredConstructors();
        Check.equal("constructors", constructors.length, 1);
        Check.equal("without parameters", constructors[0].getParameterCount(), 0);
        Check.equal("public", Modifier.isPublic(constructors[0].getModifiers()), true);
    }

    private static String signature(Method method) {
        StringBuilder text = new StringBuilder();
        if (method.getModifiers() != Modifier.PUBLIC) {
            text.append("not merely public: ");
        }
        text.append(method.getReturnType().getSimpleName()).append(' ').append(method.getName());
        for (Class<?> type : method.getParameterTypes()) {
            text.append(' ').append(type.getSimpleName());
        }
        for (Class<?> type : method.getExceptionTypes()) {
            text.append(' ').append(type.getSimpleName());
        }
        return text.toString();
    }

    private static void classesInsideAreClosed() {
        Class<?>[] inside = HedgeCommittee.class.getDeclaredClasses();
        Check.equal("at most twelve classes", inside.length < 12, true);
        for (Class<?> type : inside) {
            int modifiers = type.getModifiers();
            Check.equal("static " + type, Modifier.isStatic(modifiers), true);
            Check.equal("closed " + type,
                    Modifier.isPublic(modifiers) || Modifier.isProtected(modifiers), false);
            int fields = 0;
            for (Field field : type.getDeclaredFields()) {
                boolean isStatic = Modifier.isStatic(field.getModifiers());
                Check.equal("static and not final: " + field,
                        isStatic && !Modifier.isFinal(field.getModifiers()), false);
                fields += isStatic ? 0 : 1;
            }
            Check.equal("at most twenty fields " + type, fields <= 20, true);
        }
    }

    /** "Ahead of the calls .. the interface says: ---- .." */
    private static void headingsStandAheadOfTheirCalls(String source) {
        Map<String, StringBuilder> calls = new LinkedHashMap<>();
        StringBuilder behind = new StringBuilder();
        for (String line : source.split("\n")) {
            Matcher heading = Pattern.compile(" {4}// ---- (.*)").matcher(line);
            Matcher call = Pattern.compile(" {4}public \\w+ (\\w+)\\(.*").matcher(line);
            if (heading.matches()) {
                behind = new StringBuilder(heading.group(1)).append(':');
                calls.put(heading.group(1), behind);
            } else if (call.matches()) {
                behind.append(' ').append(call.group(1));
            }
        }
        for (String due : HEADINGS) {
            String heading = due.substring(0, due.indexOf(':'));
            Check.equal("calls behind ---- " + heading, "" + calls.remove(heading), due);
        }
        for (StringBuilder more : calls.values()) {
            Check.equal("no calls behind ---- " + more, more.charAt(more.length() - 1), ':');
        }
    }

    private static void sourceKeepsToTheLanguage(String source) {
        String code = source.replaceAll("(?s)/\\*.*?\\*/", "").replaceAll("//[^\n]*", "");
        for (String words : RULED_OUT) {
            Check.equal("ruled out: " + words, Pattern.compile(words).matcher(code).find(), false);
        }
        for (int i = 0; i < source.length(); i++) {
            if (source.charAt(i) > 126) {
                Check.equal("a sign above 126 at " + i, true, false);
            }
        }
        Matcher thrown = Pattern.compile("\\bthrow\\b([^;]*);").matcher(code);
        while (thrown.find()) {
            Check.equal("a throw of new, with a written text:" + thrown.group(1),
                    thrown.group(1).matches(" new \\w+\\(\"[^\"]*\"\\)"), true);
        }
        Matcher imported = Pattern.compile("import ([^;]*);").matcher(code);
        while (imported.find()) {
            Check.equal("import of " + imported.group(1), imported.group(1)
                    .matches("java\\.util\\.(ArrayList|Arrays|NoSuchElementException)"), true);
        }
    }
}
