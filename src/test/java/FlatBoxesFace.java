import java.lang.reflect.Constructor;
import java.lang.reflect.Field;
import java.lang.reflect.Member;
import java.lang.reflect.Method;
import java.lang.reflect.Modifier;
import java.util.Arrays;
import java.util.Set;
import java.util.TreeSet;

/** The public face as the document writes it, and nothing beside it that another class could see. */
public final class FlatBoxesFace {
    private static final String IAE = "java.lang.IllegalArgumentException";
    private static final String ISE = "java.lang.IllegalStateException";
    private static final String IOOBE = "java.lang.IndexOutOfBoundsException";
    private static final Set<String> DUE = new TreeSet<>(Arrays.asList(
            "public static final int FlatBoxes.NONE",
            "public FlatBoxes(int)",
            "public int FlatBoxes.carton(int,int,int,int,int) throws " + IAE + "," + ISE,
            "public int FlatBoxes.part(int,int,int,int,int) throws " + IAE + "," + ISE,
            "public boolean FlatBoxes.fragile(int,boolean) throws " + IOOBE,
            "public boolean FlatBoxes.fits(int,int) throws " + IOOBE + "," + IAE,
            "public int FlatBoxes.run()",
            "public int FlatBoxes.at(int,int) throws " + ISE + "," + IOOBE,
            "public int FlatBoxes.box(int,int) throws " + ISE + "," + IOOBE,
            "public int FlatBoxes.cost() throws " + ISE,
            "public int FlatBoxes.manual(int) throws " + IOOBE,
            "public int FlatBoxes.bag() throws " + ISE,
            "public int FlatBoxes.into(int,int,int,int) throws " + IOOBE + "," + IAE + "," + ISE,
            "public int FlatBoxes.counted(int,int) throws " + IOOBE + "," + IAE,
            "public boolean FlatBoxes.raised(int,int) throws " + ISE + "," + IOOBE + "," + IAE,
            "public int FlatBoxes.pallets(int) throws " + ISE + "," + IAE));

    public static void main(String[] args) {
        Set<String> found = new TreeSet<>();
        for (Field f : FlatBoxes.class.getDeclaredFields()) {
            addIfSeen(found, f, f.toGenericString());
        }
        for (Constructor<?> c : FlatBoxes.class.getDeclaredConstructors()) {
            addIfSeen(found, c, c.toGenericString());
        }
        for (Method m : FlatBoxes.class.getDeclaredMethods()) {
            addIfSeen(found, m, m.toGenericString());
        }
        boolean right = found.equals(DUE);
        int modifiers = FlatBoxes.class.getModifiers();
        right &= Modifier.isPublic(modifiers) && Modifier.isFinal(modifiers);
        for (Class<?> inside : FlatBoxes.class.getDeclaredClasses()) {
            int m = inside.getModifiers();
            right &= Modifier.isStatic(m) && !Modifier.isPublic(m) && !Modifier.isProtected(m);
        }
        if (!right) {
            System.out.println("the face is not as due; it has: " + String.join("\n  ", found));
            System.exit(1);
        }
        System.out.println("the face is as due");
    }

    private static void addIfSeen(Set<String> found, Member member, String text) {
        if (!Modifier.isPrivate(member.getModifiers()) && !member.isSynthetic()) {
            found.add(text);
        }
    }
}
