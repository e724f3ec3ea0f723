import java.lang.reflect.InvocationTargetException;
import java.lang.reflect.Method;

/** Counts and prints what is not as due. A call is named as in the document, and made by reflection. */
final class Check {
    private static final Method[] FACE = ParityClauses.class.getMethods();
    private final String test;
    private int wrong = 0;
    private int made = 0;

    Check(String test) {
        this.test = test;
    }

    void due(String what, Object got, Object want) {
        made++;
        if (!got.equals(want)) {
            wrong++;
            if (wrong <= 40) {
                System.out.println(test + ": " + what + ": got " + got + ", due is " + want);
            }
        }
    }

    /** The call's answer is the number. */
    void answers(ParityClauses x, long want, String name, Object... args) {
        due(show(name, args), answer(x, name, args), Long.toString(want));
    }

    /** The call throws an exception of just this name. */
    void fails(ParityClauses x, String want, String name, Object... args) {
        due(show(name, args), answer(x, name, args), want);
    }

    void end() {
        System.out.println(test + ": " + made + " answers, " + wrong + " not as due");
        if (wrong != 0) {
            System.exit(1);
        }
    }

    static String show(String name, Object... args) {
        StringBuilder text = new StringBuilder(name).append('(');
        for (int i = 0; i < args.length; i++) {
            text.append(i == 0 ? "" : ", ").append(args[i]);
        }
        return text.append(')').toString();
    }

    /** The number that a call of the face answers ("void" for none), or the simple name of what it throws. */
    static String answer(Object object, String name, Object... args) {
        for (Method method : object instanceof ParityClauses ? FACE : object.getClass().getMethods()) {
            if (method.getName().equals(name) && method.getParameterCount() == args.length
                    && method.getDeclaringClass() != Object.class) {
                try {
                    Object got = method.invoke(object, args);
                    return got == null ? "void" : got.toString();
                } catch (InvocationTargetException e) {
                    return e.getCause().getClass().getSimpleName();
                } catch (IllegalAccessException | IllegalArgumentException e) {
                    throw new AssertionError(show(name, args), e);
                }
            }
        }
        throw new AssertionError("no such method: " + name);
    }

    /** Feeds a text, a byte for each character. */
    static void feed(ParityClauses x, String text) {
        for (int i = 0; i < text.length(); i++) {
            x.feed(text.charAt(i), 1);
        }
    }
}
