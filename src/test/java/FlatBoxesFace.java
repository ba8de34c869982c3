import java.lang.reflect.Constructor;
import java.lang.reflect.Field;
import java.lang.reflect.Member;
import java.lang.reflect.Method;
import java.lang.reflect.Modifier;
import java.util.ArrayList;
import java.util.Arrays;
import java.util.List;
import java.util.Set;
import java.util.TreeSet;

/** The public face as the document writes it, nothing beside it that another class could see, and some rules of LANGUAGE.md. */
public final class FlatBoxesFace {
    private static final String IAE = "java.lang.IllegalArgumentException";
    private static final String ISE = "java.lang.IllegalStateException";
    private static final String IOOBE = "java.lang.IndexOutOfBoundsException";
    private static final Set<String> DUE = new TreeSet<>(Arrays.asList(
            "public static final int FlatBoxes.NONE",
            "public FlatBoxes(int)",
            "public int FlatBoxes.carton(int,int,int,int,int) throws " + IAE + "," + ISE,
            "public int FlatBoxes.part(int,int,int,int,int) throws " + IAE + "," + ISE,
            "public boolean FlatBoxes.fragile(int,boolean) throws " + IOOBE,
            "public boolean FlatBoxes.fits(int,int) throws " + IOOBE + "," + IAE,
            "public int FlatBoxes.run()",
            "public int FlatBoxes.at(int,int) throws " + ISE + "," + IOOBE,
            "public int FlatBoxes.box(int,int) throws " + ISE + "," + IOOBE,
            "public int FlatBoxes.cost() throws " + ISE,
            "public int FlatBoxes.manual(int) throws " + IOOBE,
            "public int FlatBoxes.bag() throws " + ISE,
            "public int FlatBoxes.into(int,int,int,int) throws " + IOOBE + "," + IAE + "," + ISE,
            "public int FlatBoxes.counted(int,int) throws " + IOOBE + "," + IAE,
            "public boolean FlatBoxes.raised(int,int) throws " + ISE + "," + IOOBE + "," + IAE,
            "public int FlatBoxes.pallets(int) throws " + ISE + "," + IAE));

    private static final Set<Class<?>> CONSTANT_TYPES = Set.of(int.class, long.class, boolean.class, char.class,
            String.class, int[].class, long[].class, char[].class, byte[].class);
    private static int wrong = 0;

    public static void main(String[] args) throws ReflectiveOperationException {
        face();
        classesInside();
        namesOfTheFaceAreItsOwn();
        staticFields();
        sizes();
        System.out.println(wrong == 0 ? "the face is as due" : wrong + " things of the face are not as due");
        if (wrong != 0) {
            System.exit(1);
        }
    }

    private static void due(boolean right, String what) {
        if (!right) {
            wrong++;
            System.out.println("not as due: " + what);
        }
    }

    /** The document's face, and rule 1 of LANGUAGE.md: no other member that can be seen. */
    private static void face() throws ReflectiveOperationException {
        Set<String> found = new TreeSet<>();
        for (Field f : FlatBoxes.class.getDeclaredFields()) {
            addIfSeen(found, f, f.toGenericString());
        }
        for (Constructor<?> c : FlatBoxes.class.getDeclaredConstructors()) {
            addIfSeen(found, c, c.toGenericString());
        }
        for (Method m : FlatBoxes.class.getDeclaredMethods()) {
            addIfSeen(found, m, m.toGenericString());
        }
        due(found.equals(DUE), "the face has: " + String.join("\n  ", found));
        int modifiers = FlatBoxes.class.getModifiers();
        due(Modifier.isPublic(modifiers) && Modifier.isFinal(modifiers), "the class is public and final");
        due(FlatBoxes.class.getPackageName().isEmpty(), "the class has no package");
        // By reflection: the compiler writes a constant's value into the code that names it.
        due(FlatBoxes.class.getField("NONE").getInt(null) == -1, "NONE is -1");
    }

    private static void addIfSeen(Set<String> found, Member member, String text) {
        if (!Modifier.isPrivate(member.getModifiers()) && !member.isSynthetic()) {
            found.add(text);
        }
    }

    private static List<Class<?>> allClasses() {
        List<Class<?>> all = new ArrayList<>(List.of(FlatBoxes.class));
        for (int k = 0; k < all.size(); k++) {
            all.addAll(Arrays.asList(all.get(k).getDeclaredClasses()));
        }
        return all;
    }

    /** Rules 1 and 6: private or package-visible, static, none of them an exception. */
    private static void classesInside() {
        for (Class<?> c : allClasses()) {
            int m = c.getModifiers();
            due(c == FlatBoxes.class || Modifier.isStatic(m) && !Modifier.isPublic(m) && !Modifier.isProtected(m),
                    c + " is static and not public");
            due(!Throwable.class.isAssignableFrom(c), c + " is no exception");
        }
    }

    /** Rule 1: no private method bears the name of a public one. */
    private static void namesOfTheFaceAreItsOwn() {
        Set<String> names = new TreeSet<>();
        for (Method m : FlatBoxes.class.getDeclaredMethods()) {
            if (Modifier.isPublic(m.getModifiers())) {
                names.add(m.getName());
            }
        }
        for (Class<?> c : allClasses()) {
            for (Method m : c.getDeclaredMethods()) {
                boolean isFace = c == FlatBoxes.class && Modifier.isPublic(m.getModifiers());
                due(isFace || !names.contains(m.getName()), m + " has a name of its own");
            }
        }
    }

    /** Rule 5: constants, and no other static state. */
    private static void staticFields() {
        for (Class<?> c : allClasses()) {
            for (Field f : c.getDeclaredFields()) {
                due(!Modifier.isStatic(f.getModifiers())
                        || Modifier.isFinal(f.getModifiers()) && CONSTANT_TYPES.contains(f.getType()), f + " is a constant");
            }
        }
    }

    /** Rule 11. */
    private static void sizes() {
        due(allClasses().size() <= 12, "at most twelve classes");
        for (Class<?> c : allClasses()) {
            long fields = Arrays.stream(c.getDeclaredFields()).filter(f -> !Modifier.isStatic(f.getModifiers())).count();
            due(fields <= 20, c + " has at most twenty fields");
            for (Method m : c.getDeclaredMethods()) {
                due(m.getParameterCount() <= 7, m + " has at most seven parameters");
            }
        }
    }
}
