import java.lang.reflect.Constructor;
import java.lang.reflect.Field;
import java.lang.reflect.Method;
import java.lang.reflect.Modifier;
import java.util.Set;
import java.util.TreeSet;

/** The face is the document's and no more, and whatever a call is given, it throws only what its heading names. */
public final class FaceTest {
    private static final String[] FACE = {
        "void sign(int) IllegalArgumentException UnsupportedOperationException",
        "int read() UnsupportedOperationException",
        "int kit(int) IllegalArgumentException IllegalStateException UnsupportedOperationException",
        "int part(int,int,int,boolean) IllegalArgumentException IllegalStateException NoSuchElementException"
            + " UnsupportedOperationException",
        "int ring(int)",
        "int changed(int,int) IllegalArgumentException IllegalStateException NoSuchElementException"
            + " UnsupportedOperationException",
        "void day(int) IllegalArgumentException IllegalStateException",
        "void price(int,int) IllegalArgumentException",
        "int cost(int) NoSuchElementException",
        "int stock(int,int) IllegalArgumentException",
        "int make(int,int) IllegalArgumentException IllegalStateException NoSuchElementException"
            + " UnsupportedOperationException",
        "void substitute(int,int) IllegalArgumentException IllegalStateException NoSuchElementException",
        "int step(int,int,boolean) IllegalStateException NoSuchElementException",
        "int done(int) IllegalStateException NoSuchElementException UnsupportedOperationException",
        "void drop(int) IllegalStateException NoSuchElementException",
        "int broken(int) IllegalStateException NoSuchElementException",
        "int row(int,int) IllegalArgumentException NoSuchElementException",
        "int making(int,int) IllegalArgumentException NoSuchElementException",
        "int unit(int,int) IllegalArgumentException NoSuchElementException",
        "int good(int,int) IllegalArgumentException",
        "int count(int)",
    };
    private static final int[] NUMBERS = {Integer.MIN_VALUE, -1000, -2, -1, 0, 1, 2, 3, 4, 5, 6, 7, 9, 10, 11, 12, 19,
        20, 39, 40, 41, 59, 60, 61, 126, 127, 255, 999, 1000, 1001, 65536, Integer.MAX_VALUE};
    private static final Check t = new Check("FaceTest");

    public static void main(String[] args) throws ReflectiveOperationException {
        face();
        nothingElseIsVisible();
        noPrivateMethodHasAPublicName();
        onlyNamedExceptions();
        t.end();
    }

    private static void face() {
        Set<String> want = new TreeSet<>(Set.of(FACE));
        Set<String> got = new TreeSet<>();
        for (Method m : KitRows.class.getDeclaredMethods()) {
            if (Modifier.isPublic(m.getModifiers())) {
                got.add(tell(m));
            }
        }
        for (String method : want) {
            t.due("has " + method, got.contains(method) ? 1 : 0, 1);
        }
        t.due("no other public method", got.size(), want.size());
        t.due("public and final", KitRows.class.getModifiers(), Modifier.PUBLIC | Modifier.FINAL);
    }

    private static String tell(Method m) {
        StringBuilder all = new StringBuilder(m.getReturnType().getName()).append(' ').append(m.getName()).append('(');
        for (Class<?> type : m.getParameterTypes()) {
            all.append(all.charAt(all.length() - 1) == '(' ? "" : ",").append(type.getName());
        }
        all.append(')');
        Set<String> exceptions = new TreeSet<>();
        for (Class<?> type : m.getExceptionTypes()) {
            exceptions.add(type.getSimpleName());
        }
        for (String name : exceptions) {
            all.append(' ').append(name);
        }
        return all.toString();
    }

    private static void nothingElseIsVisible() {
        for (Method m : KitRows.class.getDeclaredMethods()) {
            boolean right = Modifier.isPublic(m.getModifiers()) || Modifier.isPrivate(m.getModifiers());
            t.due(m + " is public or private", right ? 1 : 0, 1);
        }
        for (Field f : KitRows.class.getDeclaredFields()) {
            t.due(f + " is private", Modifier.isPrivate(f.getModifiers()) ? 1 : 0, 1);
            t.due(f + ": static fields are final",
                    Modifier.isStatic(f.getModifiers()) && !Modifier.isFinal(f.getModifiers()) ? 1 : 0, 0);
        }
        Constructor<?>[] constructors = KitRows.class.getDeclaredConstructors();
        t.due("one constructor", constructors.length, 1);
        t.due("without parameters", constructors[0].getParameterCount(), 0);
        for (Class<?> inside : KitRows.class.getDeclaredClasses()) {
            t.due(inside + " is static", Modifier.isStatic(inside.getModifiers()) ? 1 : 0, 1);
            t.due(inside + " is not public", Modifier.isPublic(inside.getModifiers()) ? 1 : 0, 0);
        }
    }

    private static void noPrivateMethodHasAPublicName() {
        Set<String> names = new TreeSet<>();
        for (String method : FACE) {
            names.add(method.substring(method.indexOf(' ') + 1, method.indexOf('(')));
        }
        for (Method m : KitRows.class.getDeclaredMethods()) {
            if (!Modifier.isPublic(m.getModifiers())) {
                t.due("the name of " + m, names.contains(m.getName()) ? 1 : 0, 0);
            }
        }
        for (Class<?> inside : KitRows.class.getDeclaredClasses()) {
            for (Method m : inside.getDeclaredMethods()) {
                t.due("the name of " + m, names.contains(m.getName()) ? 1 : 0, 0);
            }
        }
    }

    /** Every call with every pair of numbers, on a new object and on one that is in the middle of its work. */
    private static void onlyNamedExceptions() throws ReflectiveOperationException {
        for (Method m : KitRows.class.getDeclaredMethods()) {
            if (Modifier.isPublic(m.getModifiers())) {
                for (int a : NUMBERS) {
                    for (int b : NUMBERS) {
                        callWith(m, new KitRows(), a, b);
                        callWith(m, atWork(), a, b);
                    }
                }
            }
        }
    }

    private static KitRows atWork() {
        KitRows x = new KitRows();
        Check.read(x, "K 5 2*1/2 1*3\nK 6 1*5/4\nK 7 1*6 1*5\n");
        x.stock(1, 9);
        x.stock(3, 9);
        x.make(0, 0);
        Check.finish(x, 1);
        x.make(0, 0);
        Check.finish(x, 2);
        x.make(1, 1);
        Check.finish(x, 3);
        x.make(2, 1);
        x.make(0, 2);
        x.changed(0, 3);
        x.day(3);
        Check.signAll(x, "K 8 1*1\n");
        return x;
    }

    private static void callWith(Method m, KitRows x, int a, int b) throws ReflectiveOperationException {
        Class<?>[] types = m.getParameterTypes();
        Object[] values = new Object[types.length];
        for (int i = 0; i < types.length; i++) {
            values[i] = types[i] == boolean.class ? (Object) (b % 2 == 0) : (Object) (i == 0 ? a : b);
        }
        String thrown = "";
        try {
            m.invoke(x, values);
        } catch (java.lang.reflect.InvocationTargetException e) {
            thrown = e.getCause().getClass().getSimpleName();
        }
        boolean named = thrown.isEmpty();
        for (Class<?> type : m.getExceptionTypes()) {
            named |= type.getSimpleName().equals(thrown);
        }
        t.due(m.getName() + " with " + a + " and " + b + " threw " + thrown, named ? 1 : 0, 1);
    }
}
