import java.lang.reflect.Constructor;
import java.lang.reflect.Field;
import java.lang.reflect.Method;
import java.lang.reflect.Modifier;
import java.util.Arrays;
import java.util.Set;
import java.util.TreeSet;

/** The class shows the document's face and nothing beside it, and its calls make next to nothing. */
public final class FaceTest {
    private static final String[] METHODS = {
        "int shelf(int,int)", "boolean turn(int,int)", "int group(int)", "boolean grow(int,int)",
        "int book(int,int)", "int gone(int)", "boolean limit(int)", "int count(int)",
        "int on(int,int) throws", "int in(int,int) throws", "int of(int,int) throws", "int lasts()",
        "int cut(int,int)", "int price(int,int)", "int best(boolean)", "int tight()",
        "int more(int,int)", "int plan(int)", "int drop()", "int move()", "int day()",
        "int planned(int,int)", "int left(int)", "int enough(int)", "int log(int,int)"
    };
    private static int wrong = 0;

    private static void must(boolean so, String what) {
        if (!so) {
            wrong++;
            System.out.println("not so: " + what);
        }
    }

    private static String told(Method m) {
        StringBuilder text = new StringBuilder();
        for (Class<?> type : m.getParameterTypes()) {
            text.append(text.length() == 0 ? "" : ",").append(type.getName());
        }
        boolean thrown = Arrays.asList(m.getExceptionTypes()).contains(java.util.NoSuchElementException.class);
        return m.getReturnType() + " " + m.getName() + "(" + text + ")" + (thrown ? " throws" : "");
    }

    private static void methods() {
        Set<String> shown = new TreeSet<>();
        Set<String> shownNames = new TreeSet<>();
        for (Method m : ShelfShift.class.getDeclaredMethods()) {
            if (!Modifier.isPrivate(m.getModifiers())) {
                must(Modifier.isPublic(m.getModifiers()) && !Modifier.isStatic(m.getModifiers()), m + " is public");
                shown.add(told(m));
                shownNames.add(m.getName());
            }
        }
        must(shown.equals(new TreeSet<>(Arrays.asList(METHODS))), "the methods are the document's: " + shown);
        for (Method m : ShelfShift.class.getDeclaredMethods()) {
            boolean hidden = Modifier.isPrivate(m.getModifiers());
            must(!hidden || !shownNames.contains(m.getName()), "no private method is called " + m.getName());
        }
    }

    private static void members() throws Exception {
        must(Modifier.isPublic(ShelfShift.class.getModifiers()), "the class is public");
        must(Modifier.isFinal(ShelfShift.class.getModifiers()), "the class is final");
        Constructor<?>[] made = ShelfShift.class.getDeclaredConstructors();
        must(made.length == 1 && Modifier.isPublic(made[0].getModifiers()), "one public constructor");
        must(made[0].getParameterCount() == 0, "it takes nothing");
        for (Field f : ShelfShift.class.getDeclaredFields()) {
            boolean constant = f.getName().equals("NONE");
            must(Modifier.isPrivate(f.getModifiers()) != constant, f + " is private");
        }
        Field none = ShelfShift.class.getField("NONE");
        must(none.getType() == int.class && none.getInt(null) == -1, "NONE is -1");
        must(Modifier.isStatic(none.getModifiers()) && Modifier.isFinal(none.getModifiers()), "NONE is constant");
        for (Class<?> inside : ShelfShift.class.getDeclaredClasses()) {
            must(Modifier.isStatic(inside.getModifiers()), inside + " is static");
            must(!Modifier.isPublic(inside.getModifiers()), inside + " is not public");
        }
    }

    /** The dearest calls, often: what they make may not grow with their number. */
    private static void room() {
        com.sun.management.ThreadMXBean bean =
            (com.sun.management.ThreadMXBean) java.lang.management.ManagementFactory.getThreadMXBean();
        long me = Thread.currentThread().getId();
        ShelfShift x = new ShelfShift();
        dearCalls(x);
        long before = bean.getThreadAllocatedBytes(me);
        dearCalls(x);
        long made = bean.getThreadAllocatedBytes(me) - before;
        must(made < 4096, "calls make next to nothing, but made bytes: " + made);
    }

    private static void dearCalls(ShelfShift x) {
        for (int i = 0; i < 100; i++) {
            x.shelf(100, i % 2);
            x.group(i % 50);
            x.book(i % 8, 1 + i % 9);
            x.cut(i, 0);
            x.price(i, 1);
            x.best(i % 2 == 0);
            x.more(i % 8, 3);
            x.tight();
            x.plan(i % 4);
            x.enough(2);
            x.day();
            x.gone(i % 20);
        }
    }

    public static void main(String[] args) throws Exception {
        methods();
        members();
        room();
        System.out.println(wrong == 0 ? "the face is the document's" : wrong + " things are not so");
        if (wrong != 0) {
            System.exit(1);
        }
    }
}
