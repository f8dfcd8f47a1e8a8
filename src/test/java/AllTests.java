import java.lang.reflect.InvocationTargetException;
import java.lang.reflect.Method;
import java.lang.reflect.Modifier;

/** Runs each test method of each test class, says which fail, and ends with exit code 1 if one does. */
public final class AllTests {
    static final Class<?>[] TESTS = {FaceTest.class, SentencesTest.class, WholeTest.class,
        AddressTest.class, AddressBoundsTest.class, HostTest.class, HostBoundsTest.class, PageTest.class,
        PageBoundsTest.class, VisitTest.class, VisitBoundsTest.class, ShareTest.class, ShareBoundsTest.class,
        RandomRunsTest.class};

    private AllTests() {
    }

    public static void main(String[] arguments) throws IllegalAccessException {
        int passed = 0;
        int failed = 0;
        for (Class<?> tests : TESTS) {
            for (Method test : tests.getDeclaredMethods()) {
                if (isTest(test)) {
                    boolean good = passes(test);
                    passed += good ? 1 : 0;
                    failed += good ? 0 : 1;
                }
            }
        }
        System.out.println("project: " + passed + " passed, " + failed + " failed");
        if (failed > 0 || passed == 0) {
            System.exit(1);
        }
    }

    static boolean isTest(Method method) {
        boolean seen = Modifier.isStatic(method.getModifiers()) && !Modifier.isPrivate(method.getModifiers());
        return seen && !method.isSynthetic() && method.getParameterCount() == 0;
    }

    private static boolean passes(Method test) throws IllegalAccessException {
        try {
            test.invoke(null);
            return true;
        } catch (InvocationTargetException thrown) {
            String where = test.getDeclaringClass().getName() + "." + test.getName();
            System.out.println(where + ": " + thrown.getCause());
            return false;
        }
    }
}
