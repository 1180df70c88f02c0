/**
 * Each clock of the document: one before, at and one after the value that it names, where the first event
 * is at clock 0 and where it is later, by many ticks of 1 and by few great ones.
 */
public final class ClocksTest {
    private static final Script SCRIPT = new Script();
    private static final String START = """
        route(1, 2, 400) = true
        card(10000008, 1000, 0) = 1
        """;
    private static final int[] STARTS = {0, 1, 7, 100};

    public static void main(String[] args) {
        for (int c : STARTS) {
            heldAndLapsed(c);
            chargedAndClosed(c);
            lateChargeback(c);
            lateRepresentment(c);
            busy(c);
        }
        theClockOfTheHoldStays();
        eachStateHasItsOwnClock();
        statesThatStay();
        lapsedPresentment();
        busyApart();
        whatCountsForBusy();
        SCRIPT.finish();
    }

    private static String at(int clock) {
        return clock == 0 ? "" : "tick(" + clock + ") = " + clock + "\n";
    }

    /** Brings the clock from one value to another by ticks of at most so many. */
    private static String ticks(int from, int to, int most) {
        StringBuilder text = new StringBuilder();
        for (int clock = from; clock < to; ) {
            int n = Math.min(most, to - clock);
            clock += n;
            text.append("tick(" + n + ") = " + clock + "\n");
        }
        return text.toString();
    }

    /** "HELD: .. the clock is less than c + 50; LAPSED: the same where the clock is c + 50 or more". */
    private static void heldAndLapsed(int c) {
        for (int age = 0; age <= 52; age++) {
            boolean held = age < 50;
            for (int most : new int[] {1, 100}) {
                SCRIPT.run("a hold of " + c + " at age " + age, START, at(c), "authorise(0, 1, 10000008, 600, false) = 600",
                    ticks(c, c + age, most), held ? """
                    state(0, 1) = 2
                    held(0, 1) = 600
                    available(10000008) = 400
                    authorise(0, 2, 10000008, 401, false) = SHORT
                    authorise(0, 3, 10000008, 1000, true) = 400
                    present(0, 1, 600) = 24
                    """ : """
                    state(0, 1) = 3
                    held(0, 1) = 0
                    available(10000008) = 1000
                    authorise(0, 2, 10000008, 401, false) = 401
                    present(0, 1, 600) = SHORT
                    authorise(0, 3, 10000008, 1000, true) = 599
                    present(0, 1, 1) = SHORT
                    """);
            }
        }
        SCRIPT.run("a hold that is very old", START, at(c), "authorise(0, 1, 10000008, 600, false) = 600",
            ticks(c, c + 4000, 100), "state(0, 1) = 3", "held(0, 1) = 0", "available(10000008) = 1000", "present(0, 1, 600) = 24");
    }

    /** "CHARGED: .. the clock is at most c + 30; CLOSED: as 7, where the clock is more than c + 30; it is blocked no more". */
    private static void chargedAndClosed(int c) {
        for (int age = 0; age <= 52; age++) {
            SCRIPT.run("a chargeback of " + c + " at age " + age, START, at(c), """
                authorise(0, 1, 10000008, 600, false) = 600
                present(0, 1, 600) = 24
                chargeback(0, 1) = 600
                """, ticks(c, c + age, age % 2 == 0 ? 1 : 100), age <= 30 ? """
                state(0, 1) = 7
                held(0, 1) = 600
                available(10000008) = 400
                authorise(0, 2, 10000008, 401, false) = SHORT
                """ : """
                state(0, 1) = 9
                held(0, 1) = 0
                available(10000008) = 1000
                authorise(0, 2, 10000008, 1000, false) = 1000
                """, "chargeback(0, 1) = 0", "present(0, 1, 600) = 24", "reverse(0, 1, 0) = LATE");
        }
    }

    /** "CLEARED at clock c: LATE when the clock is more than c + 30". */
    private static void lateChargeback(int c) {
        for (int age = 0; age <= 52; age++) {
            SCRIPT.run("a presentment of " + c + " at age " + age, START, at(c), """
                authorise(0, 1, 10000008, 600, false) = 600
                present(0, 1, 600) = 24
                """, ticks(c, c + age, age % 2 == 0 ? 1 : 100), "state(0, 1) = 6", age <= 30 ? """
                chargeback(0, 1) = 600
                state(0, 1) = 7
                position(0) = -24
                """ : """
                chargeback(0, 1) = LATE
                state(0, 1) = 6
                position(0) = 576
                """);
        }
    }

    private static void lateRepresentment(int c) {
        for (int age = 0; age <= 52; age++) {
            SCRIPT.run("to represent a chargeback of " + c + " at age " + age, START, at(c), """
                authorise(0, 1, 10000008, 600, false) = 600
                present(0, 1, 600) = 24
                chargeback(0, 1) = 600
                """, ticks(c, c + age, age % 2 == 0 ? 1 : 100), age <= 30 ? """
                represent(0, 1) = 600
                state(0, 1) = 8
                available(10000008) = 400
                position(0) = 576
                """ : """
                represent(0, 1) = LATE
                state(0, 1) = 9
                available(10000008) = 1000
                position(0) = -24
                """);
        }
    }

    /** "BUSY when at least 4 requests for this card were approved at clocks greater than the clock - 10". */
    private static void busy(int c) {
        for (int age = 0; age <= 12; age++) {
            String approvals = Script.lines("authorise(0, #, 10000008, 10, false) = 10", 1, 4);
            SCRIPT.run("four approvals of " + c + " at age " + age, START, at(c), approvals, ticks(c, c + age, 1),
                "authorise(1, 1, 10000008, 5, false) = " + (age < 10 ? "BUSY" : "5"),
                "state(1, 1) = " + (age < 10 ? 1 : 2),
                "authorise(1, 2, 10000008, 5000, true) = " + (age < 10 ? "BUSY" : "955"));
            SCRIPT.run("three approvals of " + c + " at age " + age, START, at(c),
                Script.lines("authorise(0, #, 10000008, 10, false) = 10", 1, 3), ticks(c, c + age, 1),
                "authorise(1, 1, 10000008, 5, false) = 5",
                "authorise(1, 2, 10000008, 5, false) = " + (age < 10 ? "BUSY" : "5"));
        }
    }

    /** "(The clock c of the hold stays.)" */
    private static void theClockOfTheHoldStays() {
        SCRIPT.run("a reversal at 49", START, """
            authorise(0, 1, 10000008, 600, false) = 600
            tick(49) = 49
            reverse(0, 1, 500) = 100
            state(0, 1) = 2
            available(10000008) = 500
            tick(1) = 50
            state(0, 1) = 3
            available(10000008) = 1000
            """);
        SCRIPT.run("a reversal at 50 of what has lapsed", START, """
            authorise(0, 1, 10000008, 600, false) = 600
            tick(50) = 50
            reverse(0, 1, 500) = 100
            state(0, 1) = 3
            held(0, 1) = 0
            available(10000008) = 1000
            present(0, 1, 501) = OVER
            present(0, 1, 500) = 20
            """);
        SCRIPT.run("a repeated request does not begin the hold anew", START, """
            authorise(0, 1, 10000008, 600, false) = 600
            tick(49) = 49
            authorise(0, 1, 10000008, 600, false) = 600
            tick(1) = 50
            state(0, 1) = 3
            authorise(0, 1, 10000008, 600, false) = 600
            state(0, 1) = 3
            """);
    }

    /** The clocks of approval, presentment and chargeback are 20 apart, so that one can't stand for another. */
    private static void eachStateHasItsOwnClock() {
        String charged = """
            tick(5) = 5
            authorise(0, 1, 10000008, 600, false) = 600
            tick(20) = 25
            present(0, 1, 600) = 24
            tick(20) = 45
            chargeback(0, 1) = 600
            """;
        SCRIPT.run("the chargeback's clock counts", START, charged, """
            tick(30) = 75
            state(0, 1) = 7
            tick(1) = 76
            state(0, 1) = 9
            """);
        SCRIPT.run("represented in time by the chargeback's clock", START, charged, "tick(30) = 75", "represent(0, 1) = 600");
        SCRIPT.run("the presentment's clock counts", START, """
            authorise(0, 1, 10000008, 600, false) = 600
            tick(40) = 40
            present(0, 1, 600) = 24
            present(0, 1, 600) = 24
            tick(30) = 70
            present(0, 1, 600) = 24
            chargeback(0, 1) = 600
            """);
        SCRIPT.run("a repeated presentment does not begin it anew", START, """
            authorise(0, 1, 10000008, 600, false) = 600
            present(0, 1, 600) = 24
            tick(30) = 30
            present(0, 1, 600) = 24
            tick(1) = 31
            chargeback(0, 1) = LATE
            """);
        SCRIPT.run("a repeated chargeback does not begin it anew", START, """
            authorise(0, 1, 10000008, 600, false) = 600
            present(0, 1, 600) = 24
            chargeback(0, 1) = 600
            tick(30) = 30
            chargeback(0, 1) = 0
            tick(1) = 31
            state(0, 1) = 9
            """);
        SCRIPT.run("a presentment after the hold has lapsed", START, """
            authorise(0, 1, 10000008, 600, false) = 600
            tick(100) = 100
            present(0, 1, 600) = 24
            tick(30) = 130
            chargeback(0, 1) = 600
            """);
    }

    private static void statesThatStay() {
        SCRIPT.run("no clock alters the states 1, 4, 5, 6 and 8", START, """
            authorise(0, 1, 10000008, 1001, false) = SHORT
            authorise(0, 4, 10000008, 100, false) = 100
            reverse(0, 4, 0) = 100
            reverse(0, 5, 0) = 0
            authorise(0, 6, 10000008, 100, false) = 100
            present(0, 6, 100) = 4
            authorise(0, 8, 10000008, 100, false) = 100
            present(0, 8, 100) = 4
            chargeback(0, 8) = 100
            represent(0, 8) = 100
            """, ticks(0, 29, 100), stays(), ticks(29, 32, 1), stays(), ticks(32, 49, 100), stays(), ticks(49, 52, 1), stays(),
            ticks(52, 1000, 100), stays());
    }

    private static String stays() {
        return """
            state(0, 1) = 1
            state(0, 4) = 4
            state(0, 5) = 5
            state(0, 6) = 6
            state(0, 8) = 8
            chargeback(0, 8) = 0
            represent(0, 8) = 0
            represent(0, 6) = ABSENT
            reverse(0, 4, 0) = 0
            available(10000008) = 800
            """;
    }

    /** "LAPSED, and less than the amount is available: SHORT": a HELD key needs nothing more, at 49 too. */
    private static void lapsedPresentment() {
        String spent = """
            authorise(0, 1, 10000008, 600, false) = 600
            tick(49) = 49
            authorise(0, 2, 10000008, 400, false) = 400
            available(10000008) = 0
            """;
        SCRIPT.run("held at 49, nothing more is available", START, spent, "present(0, 1, 600) = 24", "available(10000008) = 0");
        SCRIPT.run("lapsed at 50, 600 are available", START, spent, "tick(1) = 50",
            "present(0, 1, 600) = 24", "available(10000008) = 0");
        SCRIPT.run("lapsed at 50, 599 are available", START, spent, """
            tick(1) = 50
            authorise(0, 3, 10000008, 1, false) = 1
            present(0, 1, 600) = SHORT
            state(0, 1) = 3
            present(0, 1, 599) = 24
            available(10000008) = 0
            """);
    }

    /** Approvals at the clocks 1, 4, 7 and 10: each leaves the count when the clock is ten more. */
    private static void busyApart() {
        String four = """
            tick(1) = 1
            authorise(0, 1, 10000008, 10, false) = 10
            tick(3) = 4
            authorise(0, 2, 10000008, 10, false) = 10
            tick(3) = 7
            authorise(0, 3, 10000008, 10, false) = 10
            tick(3) = 10
            authorise(0, 4, 10000008, 10, false) = 10
            authorise(0, 5, 10000008, 10, false) = BUSY
            """;
        SCRIPT.run("one leaves at 11, the next at 14", START, four, """
            tick(1) = 11
            authorise(0, 6, 10000008, 10, false) = 10
            authorise(0, 7, 10000008, 10, false) = BUSY
            tick(2) = 13
            authorise(0, 8, 10000008, 10, false) = BUSY
            tick(1) = 14
            authorise(0, 9, 10000008, 10, false) = 10
            authorise(0, 10, 10000008, 10, false) = BUSY
            """);
    }

    /** "(whatever became of them; those of keys that are in use count)" */
    private static void whatCountsForBusy() {
        SCRIPT.run("what is declined does not count", START, """
            authorise(0, 1, 10000008, 5000, false) = SHORT
            authorise(0, 2, 10000008, 5000, false) = SHORT
            authorise(0, 3, 10000008, 5000, false) = SHORT
            authorise(0, 4, 10000008, 5000, false) = SHORT
            reverse(0, 5, 0) = 0
            authorise(0, 6, 10000008, 10, false) = 10
            authorise(0, 7, 10000008, 10, false) = 10
            authorise(0, 8, 10000008, 10, false) = 10
            authorise(0, 9, 10000008, 5000, true) = 970
            authorise(0, 10, 10000008, 10, false) = BUSY
            tick(10) = 10
            authorise(0, 11, 10000008, 10, true) = SHORT
            """);
        SCRIPT.run("released, cleared, charged and represented ones count", START, """
            authorise(0, 1, 10000008, 10, false) = 10
            reverse(0, 1, 0) = 10
            authorise(0, 2, 10000008, 10, false) = 10
            present(0, 2, 10) = 1
            authorise(0, 3, 10000008, 10, false) = 10
            present(0, 3, 10) = 1
            chargeback(0, 3) = 10
            authorise(0, 4, 10000008, 10, false) = 10
            present(0, 4, 10) = 1
            chargeback(0, 4) = 10
            represent(0, 4) = 10
            tick(9) = 9
            authorise(0, 5, 10000008, 10, false) = BUSY
            tick(1) = 10
            authorise(0, 6, 10000008, 10, false) = 10
            """);
        SCRIPT.run("the clock of approval counts, not that of the presentment", START,
            Script.lines("authorise(0, #, 10000008, 10, false) = 10", 1, 4), "tick(9) = 9",
            Script.lines("present(0, #, 10) = 1", 1, 4), Script.lines("authorise(0, #, 10000008, 10, false) = 10", 1, 4),
            "tick(1) = 10", "authorise(0, 5, 10000008, 10, false) = 10");
        SCRIPT.run("repeats do not count", START, """
            authorise(0, 1, 10000008, 10, false) = 10
            authorise(0, 1, 10000008, 10, false) = 10
            authorise(0, 1, 10000008, 10, false) = 10
            authorise(0, 1, 10000008, 10, false) = 10
            authorise(0, 2, 10000008, 10, false) = 10
            """);
        SCRIPT.run("all acquirers count, other cards don't", START, "route(2, 0, 0) = true", "card(20000006, 100, 0) = 2",
            Script.lines("authorise(#, 1, 10000008, 10, false) = 10", 0, 3), """
            authorise(0, 2, 10000008, 10, false) = BUSY
            authorise(0, 3, 20000006, 10, false) = 10
            """);
        SCRIPT.run("lost ones don't count", START, Script.lines("authorise(0, #, 10000008, 10, false) = 10", 1, 4), """
            crash(1) = true
            authorise(0, 5, 10000008, 10, false) = 10
            authorise(0, 6, 10000008, 10, false) = BUSY
            """);
    }
}
