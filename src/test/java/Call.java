import java.util.Arrays;

/** A call with its arguments, which can be made on the program and on the oracle. */
record Call(String name, int... arguments) {
    /** What it answers, with 1 for true and 0 for false. */
    long on(Object x) {
        Class<?>[] types = new Class<?>[arguments.length];
        Arrays.fill(types, int.class);
        try {
            Object answer = x.getClass().getDeclaredMethod(name, types).invoke(x, boxed());
            return answer instanceof Boolean yes ? (yes ? 1 : 0) : (Integer) answer;
        } catch (ReflectiveOperationException e) {
            throw new IllegalStateException(this + " gave no answer", e);
        }
    }

    private Object[] boxed() {
        return Arrays.stream(arguments).boxed().toArray();
    }

    @Override
    public String toString() {
        String list = Arrays.toString(arguments);
        return name + "(" + list.substring(1, list.length() - 1) + ")";
    }
}
