import java.io.IOException;
import java.lang.reflect.Constructor;
import java.lang.reflect.Executable;
import java.lang.reflect.Field;
import java.lang.reflect.Method;
import java.lang.reflect.Modifier;
import java.nio.file.Files;
import java.nio.file.Path;
import java.util.ArrayList;
import java.util.Arrays;
import java.util.List;
import java.util.TreeSet;
import java.util.regex.Matcher;
import java.util.regex.Pattern;

/** The public face and the rules of the language, as far as they can be looked up. */
final class FaceTest {
    private static final Path SOURCE = Path.of("src/main/java/Politecrawl.java");
    private static final String INDEX = "IndexOutOfBoundsException";
    private static final String ARGUMENT = "IllegalArgumentException";
    private static final String STATE = "IllegalStateException";

    private FaceTest() {
    }

    static void constantsHaveTheirValues() {
        Check.due("NONE", -1, Politecrawl.NONE);
        Check.due("UNCHANGED", 0, Politecrawl.UNCHANGED);
        Check.due("CHANGED", 1, Politecrawl.CHANGED);
        Check.due("FAILED", 2, Politecrawl.FAILED);
        Check.due("GONE", 3, Politecrawl.GONE);
    }

    static void faceIsTheDocuments() {
        TreeSet<String> due = new TreeSet<>(Arrays.asList(
            "Politecrawl()",
            "int type(char) " + ARGUMENT + " " + STATE,
            "int clearAddress()", "int segments()", "boolean isTrap()",
            "int setRest(int,int) " + INDEX + " " + ARGUMENT,
            "void setPaces(int,int) " + ARGUMENT,
            "int setBudget(int) " + ARGUMENT,
            "int failures(int) " + INDEX, "int openFrom(int) " + INDEX,
            "int find(int,int) " + INDEX + " " + ARGUMENT + " " + STATE,
            "int setRank(int,int) " + INDEX + " " + ARGUMENT,
            "int pages()", "int dueAt(int) " + INDEX, "int visits(int) " + INDEX, "int changes(int) " + INDEX,
            "boolean mayVisit(int) " + INDEX, "int next()", "int nextByScan()",
            "int visit(int,int) " + INDEX + " " + ARGUMENT + " " + STATE,
            "int pass(int) " + ARGUMENT + " " + STATE,
            "int now()", "int budgetLeft()", "int waiting()",
            "int share(int,int) " + INDEX + " " + ARGUMENT));
        TreeSet<String> got = new TreeSet<>();
        for (Constructor<?> made : Politecrawl.class.getDeclaredConstructors()) {
            got.add(signature("", "Politecrawl", made));
        }
        for (Method method : Politecrawl.class.getDeclaredMethods()) {
            if (!Modifier.isPrivate(method.getModifiers())) {
                got.add(signature(method.getReturnType() + " ", method.getName(), method));
            }
        }
        Check.holds("the face is " + due + ", not " + got, due.equals(got));
        Check.holds("final", Modifier.isFinal(Politecrawl.class.getModifiers()));
    }

    static void nothingElseIsSeen() {
        TreeSet<String> publicMethods = new TreeSet<>();
        for (Method method : Politecrawl.class.getDeclaredMethods()) {
            if (Modifier.isPublic(method.getModifiers())) {
                publicMethods.add(method.getName());
            }
        }
        for (Method method : Politecrawl.class.getDeclaredMethods()) {
            boolean mine = Modifier.isPrivate(method.getModifiers());
            Check.fails(method + " has a public name", mine && publicMethods.contains(method.getName()));
        }
        List<String> seen = new ArrayList<>();
        for (Field field : Politecrawl.class.getDeclaredFields()) {
            if (!Modifier.isPrivate(field.getModifiers())) {
                Check.holds(field + " is a constant", (field.getModifiers() & Modifier.FINAL) != 0);
                seen.add(field.getName());
            }
        }
        Check.holds("five constants", seen.size() == 5);
    }

    /** The lines of the document's face stand in the source in their order, parameters' names and all. */
    static void sourceSaysTheFaceAsTheDocumentDoes() throws IOException {
        String source = Files.readString(SOURCE).replaceAll("\\s+", " ");
        int lines = 0;
        int behind = 0;
        for (String line : Document.lines()) {
            if (line.startsWith("public ") || line.startsWith("    public ")) {
                String due = line.strip().replaceFirst("\\);$", ") {").replaceFirst("(Exception);$", "$1 {");
                int at = source.indexOf(" " + due, behind);
                Check.holds("in the source, in its place: " + due, at >= 0);
                behind = at + due.length();
                lines++;
            }
        }
        Check.due("lines of the face", 28, lines);
    }

    /** "Ahead of the calls .. the interface says: ---- .." */
    static void headingsStandAheadOfTheCalls() throws IOException {
        List<String> due = new ArrayList<>();
        for (String line : Document.lines()) {
            if (line.startsWith("Ahead of the calls ")) {
                due.add(line.substring(line.indexOf("----"), line.length() - 1));
                Matcher call = Pattern.compile("`(\\w+)`").matcher(line);
                while (call.find()) {
                    due.add(call.group(1));
                }
            }
        }
        List<String> got = new ArrayList<>();
        Matcher found = Pattern.compile("// (---- .*)|public \\w+ (\\w+)\\(").matcher(Files.readString(SOURCE));
        while (found.find() && got.size() < due.size()) {
            got.add(found.group(1) == null ? found.group(2) : found.group(1));
        }
        Check.holds("headings and calls are " + due + ", not " + got, due.size() == 29 && due.equals(got));
    }

    static void everyPromiseHasATestOfItsBounds() {
        for (int promise = 1; promise <= 25; promise++) {
            String named = "promise" + promise + "[A-Z].*";
            boolean found = false;
            for (Class<?> tests : AllTests.TESTS) {
                for (Method test : tests.getDeclaredMethods()) {
                    found |= tests.getName().endsWith("BoundsTest") && test.getName().matches(named);
                }
            }
            Check.holds("a test of the bounds of promise " + promise, found);
        }
    }

    static void sourceKeepsToTheLanguage() throws IOException {
        String source = Files.readString(SOURCE);
        Check.fails("a package line", source.contains("package "));
        for (String word : new String[] {"->", "::", "catch", "finally", "synchronized", "assert ", "import ", "Exact",
            "equals(", "hashCode", "toString", "float", "double", "System.", "Object", "static {", "throws Runtime"}) {
            Check.fails(word + " in the source", source.contains(word));
        }
    }

    /** Rules 1, 2, 5 and 11: classes inside are static and not public, what is static is final, and all is small. */
    static void classesKeepToTheLanguage() {
        List<Class<?>> classes = new ArrayList<>(List.of(Politecrawl.class.getDeclaredClasses()));
        for (Class<?> inside : classes) {
            int modifiers = inside.getModifiers();
            Check.holds(inside + " is static", Modifier.isStatic(modifiers));
            Check.fails(inside + " is seen", Modifier.isPublic(modifiers) || Modifier.isProtected(modifiers));
        }
        classes.add(Politecrawl.class);
        Check.holds("at most twelve classes", classes.size() <= 12);
        for (Class<?> each : classes) {
            int fields = 0;
            for (Field field : each.getDeclaredFields()) {
                int modifiers = field.getModifiers();
                Check.holds(field + " is final", !Modifier.isStatic(modifiers) || Modifier.isFinal(modifiers));
                fields += Modifier.isStatic(modifiers) ? 0 : 1;
            }
            Check.holds("at most twenty fields in " + each, fields <= 20);
            for (Method method : each.getDeclaredMethods()) {
                Check.holds("at most seven parameters of " + method, method.getParameterCount() <= 7);
            }
        }
    }

    /** Rule 11: "Methods stay short (some sixty lines)". */
    static void methodsStayShort() throws IOException {
        int from = -1;
        String end = "";
        List<String> lines = Files.readAllLines(SOURCE);
        for (int i = 0; i < lines.size(); i++) {
            String line = lines.get(i);
            if (line.matches(" {4,8}[a-zA-Z][^;=]*\\(.*") && !line.contains(" class ") && from < 0) {
                from = i;
                end = line.replaceAll("\\S.*", "") + "}";
            }
            if (from >= 0 && line.equals(end)) {
                Check.holds("at most sixty lines from line " + (from + 1), i - from < 60);
                from = -1;
            }
        }
        Check.due("a method that goes on", -1, from);
    }

    private static String signature(String type, String name, Executable member) {
        StringBuilder text = new StringBuilder(type).append(name).append('(');
        for (Class<?> parameter : member.getParameterTypes()) {
            text.append(text.charAt(text.length() - 1) == '(' ? "" : ",").append(parameter);
        }
        text.append(')');
        for (Class<?> thrown : member.getExceptionTypes()) {
            text.append(' ').append(thrown.getSimpleName());
        }
        return text.toString();
    }
}
