import java.lang.reflect.Method;
import java.util.List;

/**
 * Runs calls written as text, one on a line: {@code present(1, 7, 3500) = 140}. An answer may be a
 * number, true, false or the name of a constant of CardSwitch. Prints every call that is not answered so.
 */
final class Script {
    private int wrong = 0;

    /** Runs the lines on a new object, and hands it out for what is easier asked in Java. */
    CardSwitch run(String title, String... texts) {
        CardSwitch subject = new CardSwitch();
        for (String text : texts) {
            for (String line : text.split("\n")) {
                if (!line.isBlank()) {
                    check(title, subject, line.trim());
                }
            }
        }
        return subject;
    }

    /** The line once for each number first .. last, which stands in for every # in it. */
    static String lines(String line, int first, int last) {
        StringBuilder text = new StringBuilder();
        for (int n = first; n <= last; n++) {
            text.append(line.replace("#", Integer.toString(n))).append('\n');
        }
        return text.toString();
    }

    /** The line once for each of the values, which stands in for every # in it. */
    static String each(String line, long... values) {
        StringBuilder text = new StringBuilder();
        for (long value : values) {
            text.append(line.replace("#", Long.toString(value))).append('\n');
        }
        return text.toString();
    }

    /** A line for each of the arguments 0, 1, .., with the answer that is due to it: all positions, say. */
    static String row(String method, long... answers) {
        StringBuilder text = new StringBuilder();
        for (int i = 0; i < answers.length; i++) {
            text.append(method + "(" + i + ") = " + answers[i] + "\n");
        }
        return text.toString();
    }

    /** What lies just outside of a range on both sides, and the least and greatest int. */
    static long[] outside(int low, int high) {
        return new long[] {low - 1, high + 1, Integer.MIN_VALUE, Integer.MAX_VALUE};
    }

    void due(String title, String what, String got, String want) {
        if (!got.equals(want)) {
            wrong++;
            System.out.println(title + ": " + what + " answered " + got + ", due is " + want);
        }
    }

    /** Compares two lists of answers, and tells the first place where they are not alike. */
    void alike(String title, String what, List<String> got, List<String> want) {
        for (int i = 0; i < Math.min(got.size(), want.size()); i++) {
            if (!got.get(i).equals(want.get(i))) {
                due(title, what + ", then", got.get(i), want.get(i));
                return;
            }
        }
        due(title, what + ", the number of answers", "" + got.size(), "" + want.size());
    }

    /** Ends the program with exit code 1 if an answer was wrong. */
    void finish() {
        System.out.println(wrong == 0 ? "all answers are as due" : wrong + " answers are not as due");
        if (wrong != 0) {
            System.exit(1);
        }
    }

    private void check(String title, CardSwitch subject, String line) {
        int sign = line.indexOf(" = ");
        String call = line.substring(0, sign);
        due(title, call, answerTo(subject, call), valueOf(line.substring(sign + 3).trim()));
    }

    private static String answerTo(CardSwitch subject, String call) {
        int open = call.indexOf('(');
        String name = call.substring(0, open);
        String inside = call.substring(open + 1, call.lastIndexOf(')')).trim();
        String[] words = inside.isEmpty() ? new String[0] : inside.split("\\s*,\\s*");
        try {
            Method method = methodNamed(name);
            Class<?>[] types = method.getParameterTypes();
            if (types.length != words.length) {
                throw new IllegalArgumentException("wrong number of arguments in " + call);
            }
            Object[] arguments = new Object[types.length];
            for (int i = 0; i < types.length; i++) {
                arguments[i] = argument(types[i], words[i]);
            }
            return String.valueOf(method.invoke(subject, arguments));
        } catch (ReflectiveOperationException e) {
            throw new IllegalStateException(call, e);
        }
    }

    private static Method methodNamed(String name) {
        for (Method method : CardSwitch.class.getDeclaredMethods()) {
            if (method.getName().equals(name)) {
                return method;
            }
        }
        throw new IllegalArgumentException("no method " + name);
    }

    private static Object argument(Class<?> type, String word) {
        if (type == boolean.class) {
            return Boolean.valueOf(word);
        }
        if (type == long.class) {
            return Long.valueOf(word);
        }
        return Integer.valueOf(word);
    }

    private static String valueOf(String word) {
        boolean constant = Character.isUpperCase(word.charAt(0));
        try {
            return constant ? String.valueOf(CardSwitch.class.getField(word).getInt(null)) : word;
        } catch (ReflectiveOperationException e) {
            throw new IllegalStateException(word, e);
        }
    }
}
