public final class Promise03CardTest {
    private static final int[] SOUND = {10000008, 20000006, 30000004, 40000002, 50000009, 60000007, 70000005, 80000003};

    public static void main(String[] args) {
        Script script = new Script();
        script.run("numbers", """
            card(12034567, 0, 0) = 1
            card(90000001, 0, 0) = 2
            card(10000008, 0, 0) = 3
            card(99999997, 0, 0) = 4
            card(12034566, 0, 0) = BAD
            card(12034568, 0, 0) = BAD
            card(20134567, 0, 0) = BAD
            card(99999999, 0, 0) = BAD
            card(0, 0, 0) = BAD
            card(18, 0, 0) = BAD
            card(9999993, 0, 0) = BAD
            card(100000009, 0, 0) = BAD
            card(100000008, 0, 0) = BAD
            card(-10000008, 0, 0) = BAD
            card(2147483647, 0, 0) = BAD
            card(-2147483648, 0, 0) = BAD
            unwritten() = 4
            """);
        theOneSoundLastDigit(script);
        script.run("balance and floor", """
            card(10000008, 1000001, 0) = BAD
            card(10000008, -1000001, -1000001) = BAD
            card(10000008, 0, -1000001) = BAD
            card(10000008, 1000001, 1000001) = BAD
            card(10000008, 4, 5) = BAD
            card(10000008, 2147483647, -2147483648) = BAD
            unwritten() = 0
            available(10000008) = UNKNOWN
            card(10000008, 1000000, -1000000) = 1
            available(10000008) = 2000000
            card(20000006, -1000000, -1000000) = 2
            available(20000006) = 0
            card(30000004, 1000000, 1000000) = 3
            available(30000004) = 0
            card(40000002, 7, 5) = 4
            available(40000002) = 2
            unwritten() = 4
            """);
        refusalsInTheirOrder(script);
        script.finish();
    }

    private static void theOneSoundLastDigit(Script script) {
        for (int start : new int[] {1234567, 5555555, 9876543, 1928374}) {
            CardSwitch subject = new CardSwitch();
            int sum = 0;
            for (int i = 0; i < 7; i++) {
                int digit = Integer.toString(start).charAt(i) - '0';
                sum += i % 2 == 1 ? digit : 2 * digit / 10 + 2 * digit % 10;
            }
            for (int last = 0; last <= 9; last++) {
                int number = 10 * start + last;
                String want = (sum + last) % 10 == 0 ? "1" : "-1";
                script.due("last digits", "card(" + number + ", 0, 0)", String.valueOf(subject.card(number, 0, 0)), want);
            }
        }
    }

    private static void refusalsInTheirOrder(Script script) {
        StringBuilder fill = new StringBuilder();
        for (int i = 0; i < SOUND.length; i++) {
            fill.append("card(" + SOUND[i] + ", 10, 0) = " + (i + 1) + "\n");
        }
        script.run("eight cards", fill.toString(), """
            card(90000001, 10, 0) = FULL
            card(10000008, 10, 0) = DUPLICATE
            card(80000003, 99, 1) = DUPLICATE
            card(80000003, 0, 1) = BAD
            card(90000001, 0, 1) = BAD
            card(90000002, 10, 0) = BAD
            available(80000003) = 10
            available(90000001) = UNKNOWN
            unwritten() = 8
            """);
    }
}
