import com.sun.management.ThreadMXBean;
import java.lang.management.ManagementFactory;
import java.lang.reflect.Array;
import java.lang.reflect.Field;
import java.lang.reflect.Modifier;

/** All calls of a run live in one room: an object is small, and its calls make nothing. */
final class RoomTest {
    private static final int ENOUGH = 4000;
    private static final int ROUNDS = 20;

    private static final Checks CHECKS = new Checks();
    private static final ThreadMXBean METER = (ThreadMXBean) ManagementFactory.getThreadMXBean();

    public static void main(String[] args) throws IllegalAccessException {
        FormFinds x = new FormFinds();
        int before = numbersIn(x);
        everyCall(x);
        CHECKS.same(before + " numbers are enough", "true", "" + (before <= ENOUGH));
        CHECKS.same("numbers after the calls", "" + before, "" + numbersIn(x));
        callsMakeNothing();
        CHECKS.finish();
    }

    /** Fields and elements of the object and of all that it holds. */
    private static int numbersIn(Object object) throws IllegalAccessException {
        if (object.getClass().isArray()) {
            return Array.getLength(object);
        }
        int numbers = 0;
        for (Field field : object.getClass().getDeclaredFields()) {
            if (!Modifier.isStatic(field.getModifiers())) {
                field.setAccessible(true);
                numbers += 1 + (field.getType().isPrimitive() ? 0 : numbersIn(field.get(object)));
            }
        }
        return numbers;
    }

    /** What the machine makes for itself on the way may fall into one round, but not into each. */
    private static void callsMakeNothing() {
        long least = Long.MAX_VALUE;
        for (int round = 0; round < ROUNDS; round++) {
            FormFinds x = new FormFinds();
            long before = METER.getCurrentThreadAllocatedBytes();
            everyCall(x);
            long made = METER.getCurrentThreadAllocatedBytes() - before;
            least = Math.min(least, made);
        }
        CHECKS.same("bytes that the calls made", "0", "" + least);
    }

    private static void everyCall(FormFinds x) {
        for (int i = 0; i < 60; i++) {
            x.note(60 + i % 7, 1 + i % 3);
        }
        for (int view = 0; view < Rows.VIEWS; view++) {
            x.items(view);
            x.item(view, 58);
            x.repeats(view, 1);
            x.repeat(0, 2);
            x.passages(view, 5);
            x.period(view);
            x.alike(view, 0, 7, 50);
        }
        x.motive(3, 12);
        for (int form = 0; form < Rows.FORMS; form++) {
            x.form(form, 11, 0);
            x.form(form, 11, 1);
            x.find(form, 0, 0);
            x.find(form, 9, 9);
        }
        x.answer(0, 12, 11);
        x.entries(0, 12);
        x.found(0);
        x.sections(10, 3);
        x.section(0);
        for (int what = 0; what <= 4; what++) {
            x.of(what);
        }
        x.drop(20);
        x.clear();
    }
}
