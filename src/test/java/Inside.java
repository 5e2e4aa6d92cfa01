import java.lang.reflect.Field;
import java.lang.reflect.Modifier;

/** Reaches into an object for what no run of calls can bring about. */
final class Inside {
    private final BarrelRaft x;
    private final int ropes;

    private Inside(BarrelRaft x, int ropes) {
        this.x = x;
        this.ropes = ropes;
    }

    /**
     * Finds the number that count(9) tells, whatever its name, and puts it to this one. Answers whether
     * there is such a number.
     */
    static boolean putRopes(BarrelRaft x, int ropes) {
        return new Inside(x, ropes).putIn(x, 0);
    }

    private boolean putIn(Object holder, int depth) {
        for (Field field : holder.getClass().getDeclaredFields()) {
            if (!Modifier.isStatic(field.getModifiers()) && putAt(holder, field, depth)) {
                return true;
            }
        }
        return false;
    }

    private boolean putAt(Object holder, Field field, int depth) {
        try {
            field.setAccessible(true);
            if (field.getType() == int.class) {
                return putHere(holder, field);
            }
            Object part = field.get(holder);
            boolean own = part != null && part.getClass().getName().startsWith("BarrelRaft$");
            return own && depth < 3 && putIn(part, depth + 1);
        } catch (IllegalAccessException e) {
            return false;
        }
    }

    private boolean putHere(Object holder, Field field) throws IllegalAccessException {
        int before = field.getInt(holder);
        if (before != x.count(9)) {
            return false;
        }
        field.setInt(holder, ropes);
        if (x.count(9) == ropes) {
            return true;
        }
        field.setInt(holder, before);
        return false;
    }
}
