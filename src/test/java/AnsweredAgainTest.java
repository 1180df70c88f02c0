/**
 * "What that request was answered (whatever came afterwards)", and the fee "that the presentment was
 * answered": the same call again is answered the same and alters nothing, after each thing that can come.
 */
public final class AnsweredAgainTest {
    private static final Script SCRIPT = new Script();

    /** A request for each answer that there is, (0, 1) .. (0, 7); eleven keys are in use. */
    private static final String REQUESTS = """
        route(1, 2, 400) = true
        card(10000008, 1000, 0) = 1
        card(30000004, 1000, 0) = 2
        card(12300000, 1000, 0) = 3
        authorise(0, 1, 10000008, 600, false) = 600
        authorise(0, 2, 10000008, 600, false) = SHORT
        authorise(0, 3, 10000008, 600, true) = 400
        authorise(0, 4, 10000008, 1, true) = SHORT
        authorise(0, 5, 20000006, 5, false) = UNKNOWN
        authorise(0, 6, 30000004, 5, true) = UNROUTED
        authorise(1, 1, 12300000, 10, false) = 10
        authorise(1, 2, 12300000, 10, false) = 10
        authorise(1, 3, 12300000, 10, false) = 10
        authorise(1, 4, 12300000, 10, false) = 10
        authorise(0, 7, 12300000, 5, false) = BUSY
        unwritten() = 15
        flush() = 15
        """;

    private static final String REQUESTS_AGAIN = """
        authorise(0, 1, 10000008, 600, false) = 600
        authorise(0, 2, 10000008, 600, false) = SHORT
        authorise(0, 3, 10000008, 600, true) = 400
        authorise(0, 4, 10000008, 1, true) = SHORT
        authorise(0, 5, 20000006, 5, false) = UNKNOWN
        authorise(0, 6, 30000004, 5, true) = UNROUTED
        authorise(0, 7, 12300000, 5, false) = BUSY
        """;

    private static final String OTHER_REQUESTS = """
        authorise(0, 1, 12300000, 600, false) = DUPLICATE
        authorise(0, 1, 10000008, 599, false) = DUPLICATE
        authorise(0, 1, 10000008, 600, true) = DUPLICATE
        authorise(0, 2, 10000008, 1, false) = DUPLICATE
        authorise(0, 3, 10000008, 400, true) = DUPLICATE
        authorise(0, 3, 10000008, 600, false) = DUPLICATE
        authorise(0, 4, 10000008, 1, false) = DUPLICATE
        authorise(0, 5, 30000004, 5, false) = DUPLICATE
        authorise(0, 6, 30000004, 6, true) = DUPLICATE
        authorise(0, 7, 12300000, 5, true) = DUPLICATE
        """;

    private static final String[][] AFTER_REQUESTS = {
        {"nothing", ""},
        {"reversals of parts", "reverse(0, 1, 100) = 500\n reverse(0, 3, 1) = 399"},
        {"reversals of all", "reverse(0, 1, 0) = 600\n reverse(0, 3, 0) = 400"},
        {"reversals of what was declined", Script.lines("reverse(0, #, 0) = 0", 4, 7)},
        {"presentments", "present(0, 1, 600) = 24\n present(0, 3, 100) = 4"},
        {"chargebacks", "present(0, 1, 100) = 4\n chargeback(0, 1) = 100\n present(0, 3, 400) = 16\n chargeback(0, 3) = 400"},
        {"a representment", "present(0, 1, 100) = 4\n chargeback(0, 1) = 100\n represent(0, 1) = 100"},
        {"a closed chargeback", "present(0, 1, 100) = 4\n chargeback(0, 1) = 100\n tick(31) = 31"},
        {"ten ticks, so that no card is busy", "tick(10) = 10"},
        {"fifty ticks, so that all holds have lapsed", "tick(50) = 50\n available(10000008) = 1000"},
        {"a later card", "card(20000006, 1000, 0) = 4"},
        {"a later card with a route", "card(20000006, 1000, 0) = 4\n route(2, 0, 100) = true"},
        {"a later route", "route(3, 0, 100) = true"},
        {"another issuer and rate", "route(1, 0, 2000) = true"},
        {"a longer prefix", "route(1000, 0, 2000) = true\n route(123, 3, 0) = true"},
        {"more is available", "reverse(0, 1, 0) = 600\n available(10000008) = 600"},
        {"less is available", "tick(50) = 50\n authorise(2, 1, 10000008, 1000, false) = 1000\n available(10000008) = 0"},
        {"a cut-off", "present(0, 1, 600) = 24\n cutoff() = 1"},
        {"a reversal that was lost", "reverse(0, 1, 0) = 600\n crash(1) = true"},
        {"a presentment that was lost", "present(0, 3, 100) = 4\n tick(50) = 50\n crash(1) = true"},
        {"a later card and a later route that were lost",
            "card(20000006, 1000, 0) = 4\n route(2, 0, 100) = true\n route(3, 0, 100) = true\n crash(3) = true"},
        {"no key is left", Script.lines("reverse(3, #, 0) = 0", 1, 29) + "authorise(2, 1, 10000008, 1, false) = FULL"},
    };

    /** A fee of 20 under the key (1, 7), which held 600. */
    private static final String PRESENTMENT = """
        route(1, 2, 400) = true
        card(10000008, 1000, 0) = 1
        authorise(1, 7, 10000008, 600, false) = 600
        present(1, 7, 500) = 20
        """;

    private static final String[][] PRESENTED_STATES = {
        {"6", "state(1, 7) = 6"},
        {"7", "chargeback(1, 7) = 500\n state(1, 7) = 7"},
        {"8", "chargeback(1, 7) = 500\n represent(1, 7) = 500\n state(1, 7) = 8"},
        {"9", "chargeback(1, 7) = 500\n tick(31) = 31\n state(1, 7) = 9"},
    };

    private static final String[][] AFTER_PRESENTMENT = {
        {"nothing", ""},
        {"another issuer and rate", "route(1, 0, 2000) = true"},
        {"the rate 0", "route(1, 2, 0) = true"},
        {"a longer prefix", "route(1000, 0, 1) = true"},
        {"another rate that was lost", "route(1, 0, 2000) = true\n crash(1) = true"},
        {"another payment of the card", "authorise(1, 8, 10000008, 100, false) = 100\n present(1, 8, 100) = 4"},
        {"nothing is available", "authorise(1, 8, 10000008, 5000, true) = #\n available(10000008) = 0"},
        {"a reversal that came late", "reverse(1, 7, 0) = LATE"},
        {"all is written", "crash(0) = true"},
    };

    public static void main(String[] args) {
        for (String[] after : AFTER_REQUESTS) {
            requestsAgain(after[0], after[1]);
        }
        oneAfterAnother();
        for (String[] state : PRESENTED_STATES) {
            for (String[] after : AFTER_PRESENTMENT) {
                // 500 are free beside the 500 that were taken or are blocked; when closed, all 1000 are.
                presentmentAgain(state, after[0], after[1].replace("#", state[0].equals("9") ? "1000" : "500"));
            }
            afterACutoff(state);
        }
        otherFees();
        afterALostPresentment();
        SCRIPT.finish();
    }

    private static void requestsAgain(String title, String after) {
        SCRIPT.run("all together after " + title, REQUESTS, after, REQUESTS_AGAIN, OTHER_REQUESTS, REQUESTS_AGAIN);
        new Twins(SCRIPT, "after " + title, REQUESTS + after + "\n").unaltered(REQUESTS_AGAIN, OTHER_REQUESTS);
    }

    private static void oneAfterAnother() {
        String[] events = {
            "reverse(0, 1, 500) = 100", "route(1, 0, 2000) = true", "present(0, 1, 500) = 20", "cutoff() = 1",
            "card(20000006, 1000, 0) = 4", "chargeback(0, 1) = 500", "route(2, 3, 0) = true", "represent(0, 1) = 500",
            "tick(100) = 100", "present(0, 3, 400) = 16", "tick(100) = 200", "chargeback(0, 3) = LATE", "flush() = 9",
        };
        StringBuilder all = new StringBuilder(REQUESTS);
        for (String event : events) {
            all.append(event + "\n" + REQUESTS_AGAIN + OTHER_REQUESTS);
        }
        SCRIPT.run("one thing after another", all.toString());
    }

    private static String presentmentsAgain() {
        return "present(1, 7, 500) = 20\n" + Script.each("present(1, 7, #) = DUPLICATE", 1, 499, 501, 600, 601, 100000)
            + "present(1, 7, 0) = BAD\n present(1, 7, 100001) = BAD\n";
    }

    private static void presentmentAgain(String[] state, String title, String after) {
        String start = PRESENTMENT + state[1] + "\n" + after + "\n";
        new Twins(SCRIPT, "state " + state[0] + ", after " + title, start).unaltered(presentmentsAgain());
    }

    private static void afterACutoff(String[] state) {
        CardSwitch subject = SCRIPT.run("state " + state[0], PRESENTMENT, state[1]);
        SCRIPT.due("state " + state[0], "cutoff() of some items", subject.cutoff() > 0 ? "yes" : "no", "yes");
        SCRIPT.due("state " + state[0], "present(1, 7, 500) after a cut-off", "" + subject.present(1, 7, 500), "20");
        SCRIPT.due("state " + state[0], "no item of it", "" + subject.cutoff(), "0");
        SCRIPT.due("state " + state[0], "no presentment of it", "" + subject.reconcile(1, 0, 0), "true");
    }

    private static void otherFees() {
        SCRIPT.run("a fee of 0, and one that was rounded up", """
            route(1, 2, 0) = true
            route(2, 2, 1) = true
            card(10000008, 1000, 0) = 1
            card(20000006, 1000, 0) = 2
            authorise(1, 7, 10000008, 600, false) = 600
            authorise(1, 8, 20000006, 600, false) = 600
            present(1, 7, 600) = 0
            present(1, 8, 1) = 1
            route(1, 2, 2000) = true
            route(2, 2, 2000) = true
            present(1, 7, 600) = 0
            present(1, 8, 1) = 1
            chargeback(1, 7) = 600
            chargeback(1, 8) = 1
            present(1, 7, 600) = 0
            present(1, 8, 1) = 1
            tick(31) = 31
            present(1, 7, 600) = 0
            present(1, 8, 1) = 1
            present(1, 8, 600) = DUPLICATE
            """);
    }

    /** The presentment that was lost was never done: the next one is the one that is answered again. */
    private static void afterALostPresentment() {
        SCRIPT.run("lost, then presented with another amount", PRESENTMENT, """
            chargeback(1, 7) = 500
            crash(2) = true
            present(1, 7, 601) = OVER
            present(1, 7, 400) = 16
            present(1, 7, 500) = DUPLICATE
            present(1, 7, 400) = 16
            """);
        SCRIPT.run("lost with its request, which is made anew with another amount", PRESENTMENT, """
            crash(2) = true
            state(1, 7) = 0
            present(1, 7, 500) = ABSENT
            authorise(1, 7, 10000008, 300, true) = 300
            authorise(1, 7, 10000008, 600, false) = DUPLICATE
            present(1, 7, 500) = OVER
            present(1, 7, 300) = 12
            """);
    }
}
