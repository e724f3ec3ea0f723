import java.lang.reflect.InvocationTargetException;
import java.lang.reflect.Method;

/** Counts and prints what is not as due. A call is named as in the document, and made by reflection. */
final class Check {
    static final String INDEX = "IndexOutOfBoundsException";
    static final String ARGUMENT = "IllegalArgumentException";
    static final String STATE = "IllegalStateException";
    static final int MIN = Integer.MIN_VALUE;
    static final int MAX = Integer.MAX_VALUE;
    static final long RIGHT = 1L << 62;

    private static final Method[] FACE = ParityClauses.class.getMethods();
    private final String test;
    private Document document = null;
    private String sentence = "";
    private int wrong = 0;
    private int made = 0;

    Check(String test) {
        this.test = test;
    }

    /** What comes next is due by these words of the document. */
    void says(String heading, String words) {
        if (document == null) {
            document = new Document();
        }
        sentence = "";
        due("<" + words + "> stands under " + heading, document.quote(heading, words), true);
        sentence = heading + " <" + words + "> ";
    }

    void says(int promise, String words) {
        says("Promise " + promise, words);
    }

    /** Each word under the heading has been quoted. */
    void saysNoMore(String heading) {
        sentence = "";
        due(heading + " has a test for each sentence, but for", document.notQuoted(heading), "");
    }

    void due(String what, Object got, Object want) {
        made++;
        if (!got.equals(want)) {
            wrong++;
            if (wrong <= 40) {
                System.out.println(test + ": " + sentence + what + ": got " + got + ", due is " + want);
            }
        }
    }

    /** The call's answer is the number. */
    void answers(ParityClauses x, long want, String name, Object... args) {
        due(show(name, args), answer(x, name, args), Long.toString(want));
    }

    /** The call throws an exception of just this name. */
    void fails(ParityClauses x, String want, String name, Object... args) {
        due(show(name, args), answer(x, name, args), want);
    }

    /** It throws, and all that can be asked for is as before. This makes 41 calls. */
    void refuses(ParityClauses x, String want, String name, Object... args) {
        String before = state(x);
        fails(x, want, name, args);
        due("after " + show(name, args), state(x), before);
    }

    /** The text, read, gives this answer and this fault. */
    void reads(ParityClauses x, String text, int answer, int fault) {
        feed(x, text);
        due("read() of <" + text + ">", x.read(), answer);
        due("fault() of <" + text + ">", x.fault(), fault);
    }

    void end() {
        System.out.println(test + ": " + made + " answers, " + wrong + " not as due");
        if (wrong != 0) {
            System.exit(1);
        }
    }

    private static String state(ParityClauses x) {
        StringBuilder text = new StringBuilder();
        for (int what = 0; what <= 4; what++) {
            text.append("count ").append(x.count(what)).append(' ');
        }
        for (int what = 0; what <= 3; what++) {
            int last = x.count(what < 2 ? 1 : 2) - 1;
            text.append("told ").append(answer(x, "told", last, what)).append(' ');
        }
        for (String name : new String[] {"rows", "blame", "solutions", "gates", "model", "nodes", "fault"}) {
            text.append(name).append(' ').append(answer(x, name)).append(' ');
        }
        return text.toString();
    }

    static String show(String name, Object... args) {
        StringBuilder text = new StringBuilder(name).append('(');
        for (int i = 0; i < args.length; i++) {
            text.append(i == 0 ? "" : ", ").append(args[i]);
        }
        return text.append(')').toString();
    }

    /** The number that a call of the face answers ("void" for none), or the simple name of what it throws. */
    static String answer(Object object, String name, Object... args) {
        for (Method method : object instanceof ParityClauses ? FACE : object.getClass().getMethods()) {
            if (method.getName().equals(name) && method.getParameterCount() == args.length
                    && method.getDeclaringClass() != Object.class) {
                try {
                    Object got = method.invoke(object, args);
                    return got == null ? "void" : got.toString();
                } catch (InvocationTargetException e) {
                    return e.getCause().getClass().getSimpleName();
                } catch (IllegalAccessException | IllegalArgumentException e) {
                    throw new AssertionError(show(name, args), e);
                }
            }
        }
        throw new AssertionError("no such method: " + name);
    }

    /** Feeds a text, a byte for each character, in as few calls as can be. */
    static void feed(ParityClauses x, String text) {
        for (int from = 0; from < text.length(); from += 8) {
            String part = text.substring(from, Math.min(from + 8, text.length()));
            long bytes = 0L;
            for (char c : part.toCharArray()) {
                bytes = bytes << 8 | c;
            }
            x.feed(bytes, part.length());
        }
    }

    /** So many equations of no variables, and so many clauses of all of them. */
    static ParityClauses filled(int n, int equations, int clauses) {
        ParityClauses x = new ParityClauses(n);
        for (int i = 0; i < equations; i++) {
            x.equation(0L, 0);
        }
        for (int i = 0; i < clauses; i++) {
            x.clause((1L << n) - 1L, 0L);
        }
        return x;
    }

    /** For each assignment of a set that has another sum than right, the clause that only this one makes wrong. */
    static void addGate(ParityClauses x, long set, int right) {
        long ones = set;
        for (int turn = 0; turn < 32; turn++) {
            if (Long.bitCount(ones) % 2 != right) {
                x.clause(set & ~ones, ones);
            }
            if (ones == 0L) {
                return;
            }
            ones = (ones - 1L) & set;
        }
    }
}
