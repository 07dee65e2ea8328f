import java.lang.reflect.Constructor;
import java.lang.reflect.Field;
import java.lang.reflect.Method;
import java.lang.reflect.Modifier;
import java.util.Arrays;
import java.util.Random;
import java.util.Set;
import java.util.TreeSet;
import java.util.stream.Collectors;

/** The public face as the document tells it, and that no call of it throws. */
public final class FaceTest {
    private static final String[] FACE = {
        "int type(int)", "int wipe()", "int fault()", "int person(int,int)", "int put(int,int,int)", "int lie(int,int)",
        "int read(int)", "int set(int,int)", "int pair(int,int,int,int)", "int boat(int,int)", "int day(int,int)",
        "int with(int)", "int odd()", "int judged(int)", "int costs(int)", "long pays(int,int)", "long share(int,int)",
        "int rather(int)", "int lies(int,int)", "int back()", "int seen(int,int,int)", "int forget()",
        "int ages(int,int)", "int lot(int)", "int sheet(int,int,int)", "int lose(int)", "int lay(int,int,int,int)",
        "int get(int,int,int)", "int copy(int,int,int,int,int)", "int write(int)", "int count(int)", "long digest()"};
    private static final int[] ARGUMENTS = {0, 1, 2, 3, 4, 5, 6, 7, 9, 10, 11, 30, 31, 32, 40, 48, 49, 57, 59, 60, 61, 63,
        99, 100, 120, 121, 200, 201, 255, 256, 1023, 1024, -1, -2, -30, -31, Integer.MAX_VALUE, Integer.MIN_VALUE};

    public static void main(String[] args) throws ReflectiveOperationException {
        constants();
        methods();
        nothingElse();
        for (int run = 0; run < 60; run++) {
            noCallThrows(run);
        }
        Check.end("FaceTest");
    }

    private static void dueTrue(String what, boolean got) {
        Check.due(what, got ? 1 : 0, 1);
    }

    private static void constants() {
        Check.due("NONE", AgeFerry.NONE, -1);
        Check.due("BAD", AgeFerry.BAD, -2);
        Check.due("NOT", AgeFerry.NOT, -3);
        Check.due("FULL", AgeFerry.FULL, -4);
    }

    private static String told(Method method) {
        String types = Arrays.stream(method.getParameterTypes()).map(Class::getName).collect(Collectors.joining(","));
        return method.getReturnType().getName() + " " + method.getName() + "(" + types + ")";
    }

    private static void methods() {
        Set<String> due = new TreeSet<>(Arrays.asList(FACE));
        Set<String> got = new TreeSet<>();
        Set<String> publicNames = new TreeSet<>();
        for (Method method : AgeFerry.class.getDeclaredMethods()) {
            if (Modifier.isPublic(method.getModifiers())) {
                got.add(told(method));
                publicNames.add(method.getName());
            } else {
                dueTrue("private: " + method, Modifier.isPrivate(method.getModifiers()));
            }
        }
        dueTrue("the face is " + got, got.equals(due));
        for (Method method : AgeFerry.class.getDeclaredMethods()) {
            dueTrue("name of its own: " + method,
                Modifier.isPublic(method.getModifiers()) || !publicNames.contains(method.getName()));
            dueTrue("seven parameters at most: " + method, method.getParameterCount() <= 7);
        }
        for (Class<?> inside : AgeFerry.class.getDeclaredClasses()) {
            for (Method method : inside.getDeclaredMethods()) {
                dueTrue("name of its own: " + method, !publicNames.contains(method.getName()));
                dueTrue("seven parameters at most: " + method, method.getParameterCount() <= 7);
            }
        }
    }

    private static void fields(Class<?> type) {
        int own = 0;
        for (Field field : type.getDeclaredFields()) {
            if (Modifier.isStatic(field.getModifiers())) {
                dueTrue("final: " + field, Modifier.isFinal(field.getModifiers()));
            } else {
                own++;
            }
        }
        dueTrue("twenty fields at most: " + type, own <= 20);
    }

    private static void nothingElse() {
        dueTrue("final", Modifier.isFinal(AgeFerry.class.getModifiers()));
        Constructor<?>[] constructors = AgeFerry.class.getDeclaredConstructors();
        dueTrue("one constructor, without arguments",
            constructors.length == 1 && constructors[0].getParameterCount() == 0
                && Modifier.isPublic(constructors[0].getModifiers()));
        Set<String> open = new TreeSet<>();
        for (Field field : AgeFerry.class.getDeclaredFields()) {
            if (!Modifier.isPrivate(field.getModifiers())) {
                open.add(field.getName());
            }
        }
        dueTrue("open fields are " + open, open.equals(Set.of("NONE", "BAD", "NOT", "FULL")));
        fields(AgeFerry.class);
        dueTrue("twelve classes at most", AgeFerry.class.getDeclaredClasses().length <= 11);
        for (Class<?> inside : AgeFerry.class.getDeclaredClasses()) {
            dueTrue("static: " + inside, Modifier.isStatic(inside.getModifiers()));
            dueTrue("not open: " + inside, !Modifier.isPublic(inside.getModifiers()));
            fields(inside);
        }
    }

    /** An exception out of a call ends the test, as it is not caught. */
    private static void noCallThrows(int run) throws ReflectiveOperationException {
        Random random = new Random(run);
        AgeFerry ferry = run % 2 == 0 ? new AgeFerry() : Check.ferry("5;120;5;33;80;0;7;61;9;10".substring(0, run % 26));
        Method[] methods = Arrays.stream(AgeFerry.class.getDeclaredMethods())
            .filter(method -> Modifier.isPublic(method.getModifiers())).toArray(Method[]::new);
        Arrays.sort(methods, (a, b) -> told(a).compareTo(told(b)));
        for (int call = 0; call < 480; call++) {
            Method method = methods[random.nextInt(methods.length)];
            Object[] arguments = new Object[method.getParameterCount()];
            for (int i = 0; i < arguments.length; i++) {
                arguments[i] = ARGUMENTS[random.nextInt(random.nextBoolean() ? 5 : ARGUMENTS.length)];
            }
            boolean wouldSpoil = method.getName().equals("type") && random.nextInt(8) != 0;
            if (!wouldSpoil) {
                dueTrue(told(method), method.invoke(ferry, arguments) != null);
            }
        }
    }
}
