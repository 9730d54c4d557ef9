import java.lang.reflect.Array;
import java.lang.reflect.Field;

/**
 * Reaches inside a MachineWitness. No ACT brings a THING from one THREAD to another, and without that none can come
 * to WAIT for another one: a test of WAITING has no other way.
 */
final class Inside {
    private Inside() {
    }

    /** T k of one THREAD comes to T j of another. */
    static void share(MachineWitness witness, int from, int k, int to, int j) {
        try {
            Object strands = valueOf(MachineWitness.class, "strands", witness);
            Object source = valueOf(Array.get(strands, from).getClass(), "holds", Array.get(strands, from));
            Object goal = valueOf(Array.get(strands, to).getClass(), "holds", Array.get(strands, to));
            Array.set(goal, j, Array.get(source, k));
        } catch (ReflectiveOperationException e) {
            throw new IllegalStateException(e);
        }
    }

    private static Object valueOf(Class<?> type, String name, Object holder) throws ReflectiveOperationException {
        Field field = type.getDeclaredField(name);
        field.setAccessible(true);
        return field.get(holder);
    }
}
