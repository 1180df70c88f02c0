/**
 * A key on its ways from state to state, with its state, what it holds and what is available on its card
 * looked at after each step; "the AVAILABLE of a card is its balance, less its floor, less the amounts of
 * all keys that are HELD or CHARGED on its account".
 */
public final class StateByStateTest {
    private static final Script SCRIPT = new Script();

    /** 1500 are available on the card of key (0, 1), 70 on another card. */
    private static final String START = """
        route(1, 2, 400) = true
        card(10000008, 1000, -500) = 1
        card(12300000, 100, 30) = 2
        """;

    public static void main(String[] args) {
        declinedAndStopped();
        heldAndReleased();
        lapsed();
        cleared();
        charged();
        represented();
        closed();
        twoKeysOfOneCard();
        lostSteps();
        SCRIPT.finish();
    }

    private static String look(int state, int held, int available) {
        return "state(0, 1) = " + state + "\n held(0, 1) = " + held + "\n available(10000008) = " + available
            + "\n available(12300000) = 70\n";
    }

    private static final String APPROVED = "authorise(0, 1, 10000008, 600, false) = 600\n";
    private static final String PRESENTED = APPROVED + "present(0, 1, 500) = 20\n";
    private static final String CHARGED = PRESENTED + "chargeback(0, 1) = 500\n";

    private static void declinedAndStopped() {
        SCRIPT.run("declined", START, look(0, 0, 1500), "authorise(0, 1, 10000008, 1501, false) = SHORT", look(1, 0, 1500),
            "reverse(0, 1, 0) = 0", look(1, 0, 1500), "tick(50) = 50", look(1, 0, 1500),
            "present(0, 1, 1) = ABSENT", "chargeback(0, 1) = ABSENT", "represent(0, 1) = ABSENT", look(1, 0, 1500));
        SCRIPT.run("stopped", START, "reverse(0, 1, 600) = 0", look(5, 0, 1500), "authorise(0, 1, 10000008, 600, false) = REVERSED",
            look(5, 0, 1500), "tick(50) = 50", look(5, 0, 1500), "reverse(0, 1, 0) = 0", "present(0, 1, 600) = ABSENT", look(5, 0, 1500));
    }

    private static void heldAndReleased() {
        SCRIPT.run("all of it is held, then less, then nothing", START, "authorise(0, 1, 10000008, 1500, false) = 1500", look(2, 1500, 0),
            "reverse(0, 1, 1500) = 0", look(2, 1500, 0), "reverse(0, 1, 1499) = 1", look(2, 1499, 1), "reverse(0, 1, 1) = 1498",
            look(2, 1, 1499), "reverse(0, 1, 2) = 0", look(2, 1, 1499), "reverse(0, 1, 0) = 1", look(4, 0, 1500),
            "reverse(0, 1, 0) = 0", "present(0, 1, 1) = ABSENT", look(4, 0, 1500), "tick(50) = 50", look(4, 0, 1500));
        SCRIPT.run("a part was approved", START, "authorise(0, 1, 10000008, 9999, true) = 1500", look(2, 1500, 0),
            "reverse(0, 1, 0) = 1500", look(4, 0, 1500));
    }

    private static void lapsed() {
        SCRIPT.run("lapsed, its amount is kept in mind", START, APPROVED, look(2, 600, 900), "tick(49) = 49", look(2, 600, 900),
            "tick(1) = 50", look(3, 0, 1500), "reverse(0, 1, 600) = 0", look(3, 0, 1500), "reverse(0, 1, 400) = 200",
            look(3, 0, 1500), "present(0, 1, 401) = OVER", "present(0, 1, 400) = 16", look(6, 0, 1100));
        SCRIPT.run("lapsed, then released", START, APPROVED, "tick(50) = 50", "reverse(0, 1, 0) = 600", look(4, 0, 1500),
            "present(0, 1, 1) = ABSENT", look(4, 0, 1500));
        SCRIPT.run("lapsed, too little is available", START, APPROVED, "tick(50) = 50",
            "authorise(0, 2, 10000008, 1000, false) = 1000", look(3, 0, 500), "present(0, 1, 501) = SHORT", look(3, 0, 500),
            "present(0, 1, 500) = 20", look(6, 0, 0), "chargeback(0, 1) = 500", look(7, 500, 0), "tick(31) = 81", look(9, 0, 500));
    }

    private static void cleared() {
        SCRIPT.run("cleared, what was held beyond it is held no more", START, PRESENTED, look(6, 0, 1000), "tick(30) = 30",
            look(6, 0, 1000), "tick(100) = 130", look(6, 0, 1000), "chargeback(0, 1) = LATE", look(6, 0, 1000),
            "reverse(0, 1, 0) = LATE", look(6, 0, 1000), "represent(0, 1) = ABSENT", look(6, 0, 1000));
        SCRIPT.run("cleared with all of it", START, APPROVED, "present(0, 1, 600) = 24", look(6, 0, 900));
    }

    private static void charged() {
        SCRIPT.run("charged: given back, but blocked", START, CHARGED, look(7, 500, 1000), "tick(30) = 30", look(7, 500, 1000),
            "chargeback(0, 1) = 0", "present(0, 1, 500) = 20", "reverse(0, 1, 0) = LATE", look(7, 500, 1000),
            "authorise(0, 2, 10000008, 1001, false) = SHORT", "authorise(0, 3, 10000008, 1000, false) = 1000", look(7, 500, 0));
    }

    private static void represented() {
        SCRIPT.run("represented: taken again", START, CHARGED, "represent(0, 1) = 500", look(8, 0, 1000), "represent(0, 1) = 0",
            "chargeback(0, 1) = 0", "present(0, 1, 500) = 20", "reverse(0, 1, 0) = LATE", look(8, 0, 1000), "tick(31) = 31",
            look(8, 0, 1000), "represent(0, 1) = 0", "chargeback(0, 1) = 0", look(8, 0, 1000), "tick(100) = 131", look(8, 0, 1000));
    }

    private static void closed() {
        SCRIPT.run("closed: blocked no more", START, CHARGED, "tick(30) = 30", look(7, 500, 1000), "tick(1) = 31", look(9, 0, 1500),
            "represent(0, 1) = LATE", "chargeback(0, 1) = 0", "present(0, 1, 500) = 20", "present(0, 1, 600) = DUPLICATE",
            "reverse(0, 1, 0) = LATE", look(9, 0, 1500), "authorise(0, 2, 10000008, 1500, false) = 1500", look(9, 0, 0));
    }

    /** One key's clock does not stand for the other's, and both are of the same account. */
    private static void twoKeysOfOneCard() {
        SCRIPT.run("one lapses while the other is held, is cleared, charged and closed", START, APPROVED, "tick(20) = 20",
            "authorise(0, 2, 10000008, 300, false) = 300", look(2, 600, 600), "tick(30) = 50", look(3, 0, 1200),
            "present(0, 2, 200) = 8", look(3, 0, 1300), "chargeback(0, 2) = 200", look(3, 0, 1300), "held(0, 2) = 200",
            "tick(30) = 80", look(3, 0, 1300), "tick(1) = 81", look(3, 0, 1500), "held(0, 2) = 0", "state(0, 2) = 9",
            "present(0, 1, 600) = 24", look(6, 0, 900));
    }

    /** Each step lost, at once and after a tick by which the state before it has gone on. */
    private static void lostSteps() {
        SCRIPT.run("an approval", START, APPROVED, "tick(50) = 50", look(3, 0, 1500), "crash(1) = true", look(0, 0, 1500));
        SCRIPT.run("a reversal, at once", START, APPROVED, "reverse(0, 1, 100) = 500", look(2, 100, 1400), "crash(1) = true",
            look(2, 600, 900));
        SCRIPT.run("a reversal, later", START, APPROVED, "reverse(0, 1, 100) = 500", "tick(50) = 50", "crash(1) = true",
            look(3, 0, 1500), "present(0, 1, 600) = 24", look(6, 0, 900));
        SCRIPT.run("a release, at once", START, APPROVED, "reverse(0, 1, 0) = 600", "tick(49) = 49", "crash(1) = true", look(2, 600, 900));
        SCRIPT.run("a release, later", START, APPROVED, "reverse(0, 1, 0) = 600", "tick(50) = 50", "crash(1) = true", look(3, 0, 1500));
        SCRIPT.run("a presentment, at once", START, PRESENTED, "tick(49) = 49", "crash(1) = true", look(2, 600, 900));
        SCRIPT.run("a presentment, later", START, PRESENTED, "tick(50) = 50", "crash(1) = true", look(3, 0, 1500),
            "present(0, 1, 600) = 24", look(6, 0, 900));
        SCRIPT.run("a chargeback, at once", START, CHARGED, "tick(30) = 30", "crash(1) = true", look(6, 0, 1000),
            "chargeback(0, 1) = 500", look(7, 500, 1000), "tick(30) = 60", look(7, 500, 1000));
        SCRIPT.run("a chargeback, later", START, CHARGED, "tick(31) = 31", look(9, 0, 1500), "crash(1) = true", look(6, 0, 1000),
            "chargeback(0, 1) = LATE", look(6, 0, 1000));
        SCRIPT.run("a representment, at once", START, CHARGED, "represent(0, 1) = 500", "tick(30) = 30", "crash(1) = true",
            look(7, 500, 1000), "represent(0, 1) = 500", look(8, 0, 1000));
        SCRIPT.run("a representment, later", START, CHARGED, "represent(0, 1) = 500", "tick(31) = 31", look(8, 0, 1000),
            "crash(1) = true", look(9, 0, 1500), "represent(0, 1) = LATE", look(9, 0, 1500));
        SCRIPT.run("all of them, later", START, "flush() = 3", CHARGED, "represent(0, 1) = 500", "tick(100) = 100", "crash(3) = true",
            look(3, 0, 1500), "crash(1) = false", look(3, 0, 1500));
    }
}
