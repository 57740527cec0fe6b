import java.lang.reflect.Method;
import java.lang.reflect.Modifier;
import java.util.HashMap;
import java.util.Map;
import java.util.Set;

/** A call by its name, so that a test can go over calls and their arguments. */
record Call(String name, int... arguments) {
    private static final Set<String> NAMES_FAULTS = Set.of("block", "box", "lay", "take", "same", "move", "states");
    private static final Map<String, Method> METHODS = new HashMap<>();

    static {
        for (Method m : ClaimChains.class.getDeclaredMethods()) {
            if (Modifier.isPublic(m.getModifiers())) METHODS.put(m.getName(), m);
        }
    }

    /** The same call with another argument in one place. */
    Call with(int place, int argument) {
        int[] others = arguments.clone();
        others[place] = argument;
        return new Call(name, others);
    }

    long on(ClaimChains x) {
        Object[] boxed = new Object[arguments.length];
        for (int i = 0; i < boxed.length; i++) boxed[i] = arguments[i];
        try {
            return ((Number) METHODS.get(name).invoke(x, boxed)).longValue();
        } catch (ReflectiveOperationException e) {
            throw new IllegalStateException(this + " ended otherwise than by an answer", e);
        }
    }

    boolean namesFaults() {
        return NAMES_FAULTS.contains(name);
    }

    @Override
    public String toString() {
        StringBuilder text = new StringBuilder(name).append('(');
        for (int i = 0; i < arguments.length; i++) text.append(i == 0 ? "" : ", ").append(arguments[i]);
        return text.append(')').toString();
    }
}
