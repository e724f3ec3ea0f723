import java.io.IOException;
import java.lang.reflect.Constructor;
import java.lang.reflect.Field;
import java.lang.reflect.Member;
import java.lang.reflect.Method;
import java.lang.reflect.Modifier;
import java.nio.file.Files;
import java.nio.file.Path;
import java.util.Set;
import java.util.TreeSet;
import java.util.regex.Pattern;
import java.util.stream.Stream;

/** The public face is the document's and no more, and the source has nothing that the language's rules leave out. */
public final class FaceTest {
    private static final Check CHECK = new Check("FaceTest");
    private static final String[] FACE = {
        "int NONE", "int MANY", "ParityClauses(int)",
        "int equation(long,int)", "int clause(long,long)", "int feed(long,int)", "int read()", "int fault()", "int push()",
        "int pop(int)", "long told(int,int)", "int rows()", "long row(int)", "long blame()", "long solutions()",
        "long solution(long)", "int sum(long)", "long follow(long,long,boolean)", "int solve(int)", "long model()",
        "long models(int)", "int nodes()", "int must(int,int)", "int gates()", "long gate(int)", "int count(int)", "void clear()"};
    private static final String[] LEFT_OUT = {
        "\\bfinally\\b", "\\)\\s*->", "::", "\\bsynchronized\\b", "\\bassert\\b",
        "\\bpackage\\b", "\\bstatic\\s*\\{", "Exact\\b", "\\bnative\\b", "\\bThread\\b", "\\bRandom\\b", "\\bhashCode\\b",
        "System\\.(?!arraycopy)", "while \\(true\\)", "\\bfor \\(;", "catch \\((final )?(Exception|Throwable|Error)\\b",
        "\\b(ArrayIndexOutOfBounds|NullPointer|ClassCast|NegativeArraySize|ArrayStore)Exception\\b"};

    public static void main(String[] args) throws IOException {
        members();
        classesInside();
        source();
        CHECK.answers(new ParityClauses(1), ParityClauses.NONE, "solution", 5L);
        CHECK.due("NONE", ParityClauses.NONE, -1);
        CHECK.due("MANY", ParityClauses.MANY, -2);
        CHECK.end();
    }

    private static void members() {
        Set<String> found = new TreeSet<>();
        Set<String> publicNames = new TreeSet<>();
        Class<?> face = ParityClauses.class;
        CHECK.due("public and final", face.getModifiers(), Modifier.PUBLIC | Modifier.FINAL);
        for (Field field : face.getDeclaredFields()) {
            if (!isPrivate(field)) {
                found.add(field.getType() + " " + field.getName());
            }
            if (Modifier.isStatic(field.getModifiers())) {
                CHECK.due(field + " is final", Modifier.isFinal(field.getModifiers()), true);
            }
        }
        for (Constructor<?> constructor : face.getDeclaredConstructors()) {
            if (!isPrivate(constructor)) {
                found.add("ParityClauses" + list(constructor.getParameterTypes()));
            }
        }
        for (Method method : face.getDeclaredMethods()) {
            if (!isPrivate(method)) {
                publicNames.add(method.getName());
                found.add(method.getReturnType() + " " + method.getName() + list(method.getParameterTypes()));
            }
        }
        CHECK.due("the face", found, new TreeSet<>(Set.of(FACE)));
        for (Method method : face.getDeclaredMethods()) {
            CHECK.due(method + " has a public one's name", isPrivate(method) && publicNames.contains(method.getName()), false);
            CHECK.due(method + " has seven parameters at most", method.getParameterCount() <= 7, true);
        }
    }

    private static boolean isPrivate(Member member) {
        return Modifier.isPrivate(member.getModifiers());
    }

    private static String list(Class<?>[] types) {
        StringBuilder text = new StringBuilder("(");
        for (Class<?> type : types) {
            text.append(text.length() == 1 ? "" : ",").append(type);
        }
        return text.append(')').toString();
    }

    private static void classesInside() {
        CHECK.due("twelve classes inside at most", ParityClauses.class.getDeclaredClasses().length <= 12, true);
        for (Class<?> inside : ParityClauses.class.getDeclaredClasses()) {
            int kind = inside.getModifiers();
            CHECK.due(inside + " is static", Modifier.isStatic(kind), true);
            CHECK.due(inside + " is not public", Modifier.isPublic(kind) || Modifier.isProtected(kind), false);
            long fields = Stream.of(inside.getDeclaredFields()).filter(f -> !Modifier.isStatic(f.getModifiers())).count();
            CHECK.due(inside + " has twenty fields at most", fields <= 20, true);
        }
    }

    private static void source() throws IOException {
        String text = Files.readString(Path.of("src/main/java/ParityClauses.java"));
        String code = Pattern.compile("/\\*.*?\\*/|//[^\n]*", Pattern.DOTALL).matcher(text).replaceAll("");
        for (String rule : LEFT_OUT) {
            CHECK.due("the source has " + rule, Pattern.compile(rule).matcher(code).find(), false);
        }
        for (String line : code.split("\n")) {
            if (line.startsWith("import")) {
                CHECK.due(line, line.matches("import java\\.util\\.(Arrays|ArrayList|List|Iterator|NoSuchElementException|\\*);"), true);
            }
        }
        for (char c : text.toCharArray()) {
            if (c > 255) {
                CHECK.due("a character of the source", (int) c, "0 to 255");
            }
        }
    }
}
