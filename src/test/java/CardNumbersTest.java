import java.util.ArrayList;
import java.util.List;
import java.util.Random;

/**
 * "It is SOUND when d2 + d4 + d6 + d8 + t(d1) + t(d3) + t(d5) + t(d7) can be divided by 10", and "a route
 * fits a card whose number begins with the digits of the prefix": at the ends of the range, for each
 * digit, and for what is outside of it but would be sound with zeros before it or with digits cut off.
 */
public final class CardNumbersTest {
    private static final Script SCRIPT = new Script();

    public static void main(String[] args) {
        check(stretch(10000000, 10003000));
        check(stretch(99997000, 99999999));
        check(stretch(19999500, 20000500));
        check(everyDigit());
        check(mixed());
        outside();
        ends();
        prefixes();
        SCRIPT.finish();
    }

    private static List<Integer> stretch(int first, int last) {
        List<Integer> numbers = new ArrayList<>();
        for (int number = first; number <= last; number++) {
            numbers.add(number);
        }
        return numbers;
    }

    /** Numbers that differ in one digit from a sound one: of these none is sound. */
    private static List<Integer> everyDigit() {
        List<Integer> numbers = new ArrayList<>();
        for (int sound : new int[] {10000008, 12034567, 99999997, 50000009, 90000001}) {
            for (int power = 1; power <= 10000000; power *= 10) {
                for (int digit = power == 10000000 ? 1 : 0; digit <= 9; digit++) {
                    int number = sound - sound / power % 10 * power + digit * power;
                    numbers.add(number);
                    SCRIPT.due("one other digit", "" + number, "" + sound(number), "" + (number == sound));
                }
            }
        }
        return numbers;
    }

    private static List<Integer> mixed() {
        Random random = new Random(8);
        List<Integer> numbers = new ArrayList<>();
        for (int i = 0; i < 20000; i++) {
            numbers.add(10000000 + random.nextInt(90000000));
        }
        return numbers;
    }

    private static boolean sound(int number) {
        int[] twice = {0, 2, 4, 6, 8, 1, 3, 5, 7, 9};
        String digits = Integer.toString(number);
        int sum = 0;
        for (int i = 0; i < 8; i++) {
            int digit = digits.charAt(i) - '0';
            sum += i % 2 == 0 ? twice[digit] : digit;
        }
        return sum % 10 == 0;
    }

    /** A full object answers FULL to each sound number and BAD to all others, and stays as it is. */
    private static void check(List<Integer> numbers) {
        int calls = 512;
        CardSwitch subject = null;
        for (int number : numbers) {
            if (calls >= 500) {
                subject = SCRIPT.run("a full object", Scenes.full());
                calls = 60;
            }
            calls++;
            SCRIPT.due("numbers", "authorise(0, 99, " + number + ", 1, false)",
                "" + subject.authorise(0, 99, number, 1, false), sound(number) ? "-3" : "-1");
        }
    }

    /** 9999996 is 09999996 with a zero before it; 100000000 and 2100000000 have eight zeros at their end. */
    private static void outside() {
        long[] numbers = {0, 1, -1, 18, 59, 9999999, 9999996, 9999993, 1000009, 8, 100000000, 100000008, 100000009, 110000008,
            1000000080, 2100000000, 2110000008, -10000008, -12034567, -99999997, Integer.MIN_VALUE, Integer.MAX_VALUE};
        SCRIPT.run("not 10000000 .. 99999999", Script.each("card(#, 0, 0) = BAD", numbers),
            Script.each("authorise(0, 1, #, 1, false) = BAD", numbers), "unwritten() = 0");
    }

    private static void ends() {
        SCRIPT.run("the first and the last sound number", Script.lines("card(#, 0, 0) = BAD", 10000000, 10000007), """
            card(10000008, 5, 0) = 1
            card(10000009, 5, 0) = BAD
            card(99999998, 5, 0) = BAD
            card(99999999, 5, 0) = BAD
            card(99999997, 6, 0) = 2
            card(99999996, 5, 0) = BAD
            authorise(0, 1, 10000008, 1, false) = UNROUTED
            authorise(0, 2, 99999997, 1, false) = UNROUTED
            authorise(0, 3, 10000000, 1, false) = BAD
            authorise(0, 3, 99999999, 1, false) = BAD
            available(10000008) = 5
            available(99999997) = 6
            """);
    }

    /** 120 fits 12034567; a prefix must be the beginning, whole, and the one with the most digits counts. */
    private static void prefixes() {
        String card = "card(12034567, 1000, 0) = 1\n";
        for (int prefix : new int[] {1, 12, 120, 1203}) {
            SCRIPT.run(prefix + " fits", card, "route(" + prefix + ", 0, 0) = true", "authorise(0, 1, 12034567, 1, false) = 1");
        }
        int[] others = {2, 13, 11, 121, 119, 1204, 1202, 20, 203, 2034, 7, 67, 567, 4567, 3456, 10, 100, 1000, 9999};
        for (int prefix : others) {
            SCRIPT.run(prefix + " does not fit", card, "route(" + prefix + ", 0, 0) = true",
                "authorise(0, 1, 12034567, 1, false) = UNROUTED");
        }
        int[] fitting = {1, 12, 120, 1203};
        for (int longer = 1; longer < 4; longer++) {
            for (int shorter = 0; shorter < longer; shorter++) {
                String one = "route(" + fitting[longer] + ", 1, 1000) = true\n";
                String other = "route(" + fitting[shorter] + ", 2, 2000) = true\n";
                String use = """
                    authorise(0, 1, 12034567, 100, false) = 100
                    present(0, 1, 100) = 10
                    position(5) = -93
                    position(6) = 0
                    """;
                SCRIPT.run("the longer one, entered first", card, one, other, "route(9999, 3, 0) = true", use);
                SCRIPT.run("the longer one, entered last", card, "route(9999, 3, 0) = true", other, one, use);
            }
        }
        SCRIPT.run("zeros are digits of the number", """
            card(10000008, 1000, 0) = 1
            route(1000, 1, 1000) = true
            route(1, 2, 2000) = true
            authorise(0, 1, 10000008, 100, false) = 100
            present(0, 1, 100) = 10
            """);
    }
}
