import java.lang.reflect.Constructor;
import java.lang.reflect.Field;
import java.lang.reflect.Method;
import java.lang.reflect.Modifier;
import java.util.Set;
import java.util.TreeSet;

/** The class has the document's face and no other member that can be seen. */
final class FaceTest {
    private static final String[] FACE = {
        "public static final int FormFinds.NONE",
        "public FormFinds()",
        "public int FormFinds.clear()",
        "public int FormFinds.note(int,int) throws IllegalArgumentException,IllegalStateException",
        "public int FormFinds.drop(int) throws IllegalArgumentException",
        "public int FormFinds.items(int) throws IllegalArgumentException",
        "public int FormFinds.item(int,int) throws IllegalArgumentException",
        "public int FormFinds.repeats(int,int) throws IllegalArgumentException",
        "public int FormFinds.repeat(int,int) throws IllegalArgumentException",
        "public int FormFinds.passages(int,int) throws IllegalArgumentException",
        "public int FormFinds.period(int) throws IllegalArgumentException",
        "public int FormFinds.alike(int,int,int,int) throws IllegalArgumentException,ArithmeticException",
        "public int FormFinds.motive(int,int) throws IllegalArgumentException",
        "public int FormFinds.form(int,int,int) throws IllegalArgumentException",
        "public int FormFinds.find(int,int,int) throws IllegalArgumentException,IllegalStateException",
        "public int FormFinds.answer(int,int,int) throws IllegalArgumentException",
        "public int FormFinds.entries(int,int) throws IllegalArgumentException,IllegalStateException",
        "public int FormFinds.found(int) throws IllegalArgumentException",
        "public int FormFinds.sections(int,int) throws IllegalArgumentException",
        "public int FormFinds.section(int) throws IllegalArgumentException",
        "public int FormFinds.of(int) throws IllegalArgumentException",
    };

    public static void main(String[] args) {
        Set<String> seen = new TreeSet<>();
        Set<String> publicNames = new TreeSet<>();
        Set<String> hiddenNames = new TreeSet<>();
        for (Field f : FormFinds.class.getDeclaredFields()) {
            if (!Modifier.isPrivate(f.getModifiers())) {
                seen.add(f.toString());
            }
        }
        for (Constructor<?> c : FormFinds.class.getDeclaredConstructors()) {
            seen.add(c.toString());
        }
        for (Method m : FormFinds.class.getDeclaredMethods()) {
            if (Modifier.isPrivate(m.getModifiers())) {
                hiddenNames.add(m.getName());
            } else {
                seen.add(m.toString().replace("java.lang.", ""));
                publicNames.add(m.getName());
            }
        }
        hiddenNames.retainAll(publicNames);
        Checks checks = new Checks();
        checks.same("the face", new TreeSet<>(Set.of(FACE)).toString(), seen.toString());
        checks.same("private methods with a public one's name", "[]", hiddenNames.toString());
        checks.same("the class", "public final", Modifier.toString(FormFinds.class.getModifiers()));
        checks.due("NONE", -1, () -> FormFinds.NONE);
        checks.finish();
    }
}
