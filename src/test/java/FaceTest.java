import java.lang.reflect.Array;
import java.lang.reflect.Constructor;
import java.lang.reflect.Field;
import java.lang.reflect.Method;
import java.lang.reflect.Modifier;
import java.util.ArrayDeque;
import java.util.Arrays;
import java.util.Collections;
import java.util.Deque;
import java.util.IdentityHashMap;
import java.util.Set;

/** The document's public face, no more and no less, and how much room an object takes whatever it is asked. */
public final class FaceTest {
    private static final String[] FACE = {"boolean core(int)", "boolean type(int, int)", "int check()", "int command()",
        "int count(int)", "int holds(int, int)", "int terms()", "int value(int)"};
    private static final int MOST_OBJECTS = 100;
    private static final int MOST_ELEMENTS = 50000;

    public static void main(String[] args) throws IllegalAccessException {
        Checks checks = new Checks();
        theFace(checks);
        theRoom(checks);
        checks.end("FaceTest");
    }

    private static void theFace(Checks checks) {
        int modifiers = TermSolver.class.getModifiers();
        checks.due("public and final", Modifier.isPublic(modifiers) && Modifier.isFinal(modifiers), true);
        Method[] methods = Arrays.stream(TermSolver.class.getDeclaredMethods())
                .filter(method -> !Modifier.isPrivate(method.getModifiers()) && !method.isSynthetic()).toArray(Method[]::new);
        String[] found = Arrays.stream(methods).map(FaceTest::text).sorted().toArray(String[]::new);
        checks.due("methods " + Arrays.toString(found), Arrays.equals(found, FACE), true);
        for (Method method : methods) {
            checks.due("public and of an object: " + method, method.getModifiers() == Modifier.PUBLIC, true);
        }
        Constructor<?>[] constructors = TermSolver.class.getDeclaredConstructors();
        checks.due("constructors", constructors.length, 1);
        checks.due("a public one", constructors[0].getModifiers() == Modifier.PUBLIC, true);
        checks.due("its parameters", constructors[0].getParameterCount(), 0);
        for (Field field : TermSolver.class.getDeclaredFields()) {
            checks.due("private: " + field, Modifier.isPrivate(field.getModifiers()) || field.isSynthetic(), true);
        }
    }

    private static String text(Method method) {
        String parameters = Arrays.toString(method.getParameterTypes());
        return method.getReturnType() + " " + method.getName() + "(" + parameters.substring(1, parameters.length() - 1) + ")";
    }

    /** No call takes room that stays; what it throws away at once is not seen here. */
    private static void theRoom(Checks checks) throws IllegalAccessException {
        TermSolver solver = new TermSolver();
        int[] before = room(solver);
        System.out.println("an object takes " + before[0] + " objects and rows, " + before[1] + " fields and elements");
        checks.due("not too many objects", before[0] <= MOST_OBJECTS, true);
        checks.due("not too many elements", before[1] <= MOST_ELEMENTS, true);
        String[] commands = {"(declare-const a (_ BitVec 4))", "(declare-const b (_ BitVec 4))", "(push)",
            "(assert (= (bvudiv a b) (bvurem a b)))", "(assert (bvult a b))", "(assert (bvslt b a))", "(assert (= x", "(pop"};
        for (String text : commands) {
            Checks.command(solver, text);
            solver.check();
            solver.value(0);
            solver.core(0);
            solver.holds(0, 77);
        }
        checks.due("the same room after calls", Arrays.equals(room(solver), before), true);
    }

    /** How many objects and rows are reached from this one, and how many fields and elements they have. */
    private static int[] room(Object first) throws IllegalAccessException {
        Set<Object> seen = Collections.newSetFromMap(new IdentityHashMap<>());
        Deque<Object> left = new ArrayDeque<>();
        left.push(first);
        int elements = 0;
        while (!left.isEmpty()) {
            Object object = left.pop();
            if (object instanceof Enum || object instanceof String || !seen.add(object)) {
                continue;
            }
            elements += object.getClass().isArray() ? elementsOf(object, left) : fieldsOf(object, left);
        }
        return new int[] {seen.size(), elements};
    }

    private static int elementsOf(Object row, Deque<Object> left) {
        if (row instanceof Object[] objects) {
            Arrays.stream(objects).filter(object -> object != null).forEach(left::push);
        }
        return Array.getLength(row);
    }

    private static int fieldsOf(Object object, Deque<Object> left) throws IllegalAccessException {
        int fields = 0;
        for (Field field : object.getClass().getDeclaredFields()) {
            if (!Modifier.isStatic(field.getModifiers())) {
                fields++;
                field.setAccessible(true);
                if (!field.getType().isPrimitive() && field.get(object) != null) {
                    left.push(field.get(object));
                }
            }
        }
        return fields;
    }
}
