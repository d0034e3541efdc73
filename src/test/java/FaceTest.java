import java.lang.reflect.Constructor;
import java.lang.reflect.Field;
import java.lang.reflect.Method;
import java.lang.reflect.Modifier;
import java.util.Arrays;
import java.util.Set;
import java.util.TreeSet;

/** The public face, and the rules of LANGUAGE.md on members that a program can look at. */
final class FaceTest {
    private static final String[] FACE = {
        "int contract(int, int, int, int, boolean, int, int) B A S",
        "int pay(int, int, int) B A",
        "int shift(int, int, int, int) B A S",
        "int minutes(int, int) B",
        "int overtime(int, int) B",
        "long base(int, int) B",
        "void leaveRule(int, int, int) A",
        "boolean leave(int, int) B S",
        "int leaveLeft(int, int) B",
        "int word(int, int) A S",
        "int element(int, int) B A S",
        "int order(int) B",
        "int bonus(int, int, int, int) B A",
        "void contribution(int, int, int, int) B A",
        "int bracket(int, int, int, int, int) B A S",
        "void state(int, int, int) B A",
        "void pension(int, int, int) B A",
        "long yearTax(int, int, int, long) B A",
        "long slip(int, int, int) B A",
        "long slipIn(int, int, int, int) B A",
        "long elementOf(int, int, int) B",
        "long pensionOf(int, int) B",
        "int grossFor(int, int, int, int) B A",
        "int garnish(int, int, int, int, int, int) B A S",
        "long takenBy(int, int) B",
        "long advance(int, int) B A S",
        "int open()",
        "int close() S",
        "int payments()",
        "long payment(int, int) B A",
        "long comeBack(int) B S",
        "long owed(int) B",
        "long filed(int, int, boolean) B",
        "int corrections(int, int) B",
    };

    private FaceTest() {
    }

    static void run() {
        constants();
        methods();
        hiddenMembers();
    }

    private static void constants() {
        int[] got = {Taxmaze.NONE, Taxmaze.BASE, Taxmaze.HOURS, Taxmaze.ELEMENT, Taxmaze.MONEY, Taxmaze.PLUS, Taxmaze.MINUS,
            Taxmaze.TIMES, Taxmaze.PERMILLE, Taxmaze.LESSER, Taxmaze.GREATER, Taxmaze.GROSS, Taxmaze.CONTRIBUTION,
            Taxmaze.PENSION, Taxmaze.TAX, Taxmaze.NET, Taxmaze.TAKEN, Taxmaze.PAYOUT, Taxmaze.MATCH};
        int[] due = {-1, 0, 1, 2, 3, 4, 5, 6, 7, 8, 9, 0, 1, 2, 3, 4, 5, 6, 7};
        Check.same("the constants", Arrays.equals(got, due), true);
    }

    private static void methods() {
        Set<String> due = new TreeSet<>(Arrays.asList(FACE));
        Set<String> got = new TreeSet<>();
        for (Method method : Taxmaze.class.getDeclaredMethods()) {
            if (!Modifier.isPrivate(method.getModifiers())) {
                got.add(textOf(method));
                Check.same(method.getName() + " is public and of the object", method.getModifiers(), Modifier.PUBLIC);
            }
        }
        Check.tell(got.equals(due), "the methods", got.toString(), due.toString());
        Constructor<?>[] constructors = Taxmaze.class.getDeclaredConstructors();
        Check.same("constructors", constructors.length, 1);
        Check.same("the constructor's arguments", constructors[0].getParameterCount(), 0);
        Check.same("the class", Taxmaze.class.getModifiers(), Modifier.PUBLIC | Modifier.FINAL);
    }

    private static String textOf(Method method) {
        StringBuilder text = new StringBuilder();
        text.append(method.getReturnType().getName()).append(' ').append(method.getName()).append('(');
        for (int i = 0; i < method.getParameterCount(); i++) {
            text.append(i == 0 ? "" : ", ").append(method.getParameterTypes()[i].getName());
        }
        text.append(')');
        for (Class<?> thrown : method.getExceptionTypes()) {
            String name = thrown.getSimpleName();
            text.append(name.startsWith("Index") ? " B" : name.equals("IllegalArgumentException") ? " A" : " S");
        }
        return text.toString();
    }

    private static void hiddenMembers() {
        Set<String> names = new TreeSet<>();
        for (String line : FACE) {
            names.add(line.substring(line.indexOf(' ') + 1, line.indexOf('(')));
        }
        int constants = 0;
        for (Field field : Taxmaze.class.getDeclaredFields()) {
            int is = field.getModifiers();
            Check.same(field.getName() + " is hidden or a constant",
                Modifier.isPrivate(is) || is == (Modifier.PUBLIC | Modifier.STATIC | Modifier.FINAL), true);
            constants += Modifier.isPublic(is) ? 1 : 0;
        }
        Check.same("how many constants are public", constants, 19);
        checkHidden(Taxmaze.class, names, true);
        for (Class<?> inside : Taxmaze.class.getDeclaredClasses()) {
            int is = inside.getModifiers();
            Check.same(inside.getName() + " is not public and static",
                !Modifier.isPublic(is) && !Modifier.isProtected(is) && Modifier.isStatic(is), true);
            checkHidden(inside, names, false);
        }
    }

    private static void checkHidden(Class<?> where, Set<String> faceNames, boolean outer) {
        for (Method method : where.getDeclaredMethods()) {
            if (!outer || Modifier.isPrivate(method.getModifiers())) {
                Check.same(where.getName() + "." + method.getName() + " bears no name of the face",
                    faceNames.contains(method.getName()), false);
                Check.same(method.getName() + " takes at most seven", method.getParameterCount() <= 7, true);
            }
        }
        for (Field field : where.getDeclaredFields()) {
            int is = field.getModifiers();
            Check.same(where.getName() + "." + field.getName() + " is final if static",
                !Modifier.isStatic(is) || Modifier.isFinal(is), true);
        }
    }
}
