import java.lang.reflect.Method;

/**
 * Runs calls written as text, one on a line: {@code present(1, 7, 3500) = 140}. An answer may be a
 * number, true, false or the name of a constant of CardSwitch. Prints every call that is not answered so.
 */
final class Script {
    private int wrong = 0;

    /** Runs the lines on a new object. */
    void run(String title, String... texts) {
        CardSwitch subject = new CardSwitch();
        for (String text : texts) {
            for (String line : text.split("\n")) {
                if (!line.isBlank()) {
                    check(title, subject, line.trim());
                }
            }
        }
    }

    /** The line once for each number first .. last, which stands in for every # in it. */
    static String lines(String line, int first, int last) {
        StringBuilder text = new StringBuilder();
        for (int n = first; n <= last; n++) {
            text.append(line.replace("#", Integer.toString(n))).append('\n');
        }
        return text.toString();
    }

    void due(String title, String what, String got, String want) {
        if (!got.equals(want)) {
            wrong++;
            System.out.println(title + ": " + what + " answered " + got + ", due is " + want);
        }
    }

    /** Ends the program with exit code 1 if an answer was wrong. */
    void finish() {
        System.out.println(wrong == 0 ? "all answers are as due" : wrong + " answers are not as due");
        if (wrong != 0) {
            System.exit(1);
        }
    }

    private void check(String title, CardSwitch subject, String line) {
        int sign = line.indexOf(" = ");
        String call = line.substring(0, sign);
        due(title, call, answerTo(subject, call), valueOf(line.substring(sign + 3).trim()));
    }

    private static String answerTo(CardSwitch subject, String call) {
        int open = call.indexOf('(');
        String name = call.substring(0, open);
        String inside = call.substring(open + 1, call.lastIndexOf(')')).trim();
        String[] words = inside.isEmpty() ? new String[0] : inside.split("\\s*,\\s*");
        try {
            Method method = methodNamed(name);
            Class<?>[] types = method.getParameterTypes();
            if (types.length != words.length) {
                throw new IllegalArgumentException("wrong number of arguments in " + call);
            }
            Object[] arguments = new Object[types.length];
            for (int i = 0; i < types.length; i++) {
                arguments[i] = argument(types[i], words[i]);
            }
            return String.valueOf(method.invoke(subject, arguments));
        } catch (ReflectiveOperationException e) {
            throw new IllegalStateException(call, e);
        }
    }

    private static Method methodNamed(String name) {
        for (Method method : CardSwitch.class.getDeclaredMethods()) {
            if (method.getName().equals(name)) {
                return method;
            }
        }
        throw new IllegalArgumentException("no method " + name);
    }

    private static Object argument(Class<?> type, String word) {
        if (type == boolean.class) {
            return Boolean.valueOf(word);
        }
        if (type == long.class) {
            return Long.valueOf(word);
        }
        return Integer.valueOf(word);
    }

    private static String valueOf(String word) {
        boolean constant = Character.isUpperCase(word.charAt(0));
        try {
            return constant ? String.valueOf(CardSwitch.class.getField(word).getInt(null)) : word;
        } catch (ReflectiveOperationException e) {
            throw new IllegalStateException(word, e);
        }
    }
}
