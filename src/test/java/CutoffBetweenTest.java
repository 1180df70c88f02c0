/**
 * Cut-offs between a presentment, its chargeback and its representment: positions, settled sums, items, and
 * what reconcile says then.
 */
public final class CutoffBetweenTest {
    private static final Script SCRIPT = new Script();

    /** Keys (1, 1) and (1, 2) of issuer 2 at 4 %, (3, 1) of issuer 0 at 10 %. */
    private static final String START = """
        route(1, 2, 400) = true
        route(2, 0, 1000) = true
        card(10000008, 1000, 0) = 1
        card(20000006, 1000, 0) = 2
        authorise(1, 1, 10000008, 500, false) = 500
        authorise(1, 2, 10000008, 100, false) = 100
        authorise(3, 1, 20000006, 200, false) = 200
        flush() = 7
        """;
    private static final String NO_POSITION = Script.row("position", 0, 0, 0, 0, 0, 0, 0, 0, 0);
    private static final String NONE_SETTLED = Script.row("settled", 0, 0, 0, 0, 0, 0, 0, 0, 0);

    public static void main(String[] args) {
        noCutoff();
        aCutoffAfterEach();
        beforeTheChargeback();
        beforeTheRepresentment();
        otherPaymentsMeanwhile();
        eachCrash();
        notAfterTheClock();
        SCRIPT.finish();
    }

    /** Whether reconcile knows the numbers of each acquirer, and no others. */
    private static String reconciled(int count, long total) {
        return "reconcile(1, " + count + ", " + total + ") = true\n"
            + "reconcile(1, " + (count + 1) + ", " + total + ") = false\n"
            + "reconcile(1, " + (count - 1) + ", " + total + ") = false\n"
            + "reconcile(1, " + count + ", " + (total + 500) + ") = false\n"
            + "reconcile(1, " + count + ", " + (total - 500) + ") = false\n"
            + "reconcile(0, 0, 0) = true\n reconcile(2, 0, 0) = true\n";
    }

    private static void noCutoff() {
        SCRIPT.run("all three in one", START, "present(1, 1, 500) = 20",
            Script.row("position", 0, 480, 0, 0, 0, 0, -485, 0, 5), reconciled(1, 500), "chargeback(1, 1) = 500",
            Script.row("position", 0, -20, 0, 0, 0, 0, 15, 0, 5), reconciled(1, 500), "represent(1, 1) = 500",
            Script.row("position", 0, 480, 0, 0, 0, 0, -485, 0, 5), reconciled(1, 500), NONE_SETTLED, "cutoff() = 3",
            NO_POSITION, Script.row("settled", 0, 480, 0, 0, 0, 0, -485, 0, 5), reconciled(0, 0), "cutoff() = 0");
    }

    private static void aCutoffAfterEach() {
        SCRIPT.run("a cut-off after each", START, "present(1, 1, 500) = 20", NONE_SETTLED, "cutoff() = 1",
            NO_POSITION, Script.row("settled", 0, 480, 0, 0, 0, 0, -485, 0, 5), reconciled(0, 0),
            "chargeback(1, 1) = 500", Script.row("position", 0, -500, 0, 0, 0, 0, 500, 0, 0),
            Script.row("settled", 0, 480, 0, 0, 0, 0, -485, 0, 5), reconciled(0, 0), "cutoff() = 1",
            NO_POSITION, Script.row("settled", 0, -20, 0, 0, 0, 0, 15, 0, 5), reconciled(0, 0),
            "represent(1, 1) = 500", Script.row("position", 0, 500, 0, 0, 0, 0, -500, 0, 0), reconciled(0, 0), "cutoff() = 1",
            NO_POSITION, Script.row("settled", 0, 480, 0, 0, 0, 0, -485, 0, 5), reconciled(0, 0), "cutoff() = 0",
            "unwritten() = 6", "state(1, 1) = 8", "available(10000008) = 400");
    }

    private static void beforeTheChargeback() {
        SCRIPT.run("a cut-off between presentment and chargeback", START, "present(1, 1, 500) = 20", "cutoff() = 1",
            "state(1, 1) = 6", "available(10000008) = 400", "chargeback(1, 1) = 500", "state(1, 1) = 7", "held(1, 1) = 500",
            "represent(1, 1) = 500", NO_POSITION, reconciled(0, 0), "cutoff() = 2",
            Script.row("settled", 0, 480, 0, 0, 0, 0, -485, 0, 5));
        SCRIPT.run("the presentment again is no item of the new span", START, "present(1, 1, 500) = 20", "cutoff() = 1",
            "present(1, 1, 500) = 20", "present(1, 1, 400) = DUPLICATE", NO_POSITION, reconciled(0, 0), "cutoff() = 0");
    }

    private static void beforeTheRepresentment() {
        SCRIPT.run("a cut-off between chargeback and representment", START, "present(1, 1, 500) = 20", "chargeback(1, 1) = 500",
            "cutoff() = 2", NO_POSITION, Script.row("settled", 0, -20, 0, 0, 0, 0, 15, 0, 5), "state(1, 1) = 7",
            "held(1, 1) = 500", "available(10000008) = 400", "chargeback(1, 1) = 0", "cutoff() = 0", "represent(1, 1) = 500",
            Script.row("position", 0, 500, 0, 0, 0, 0, -500, 0, 0), "represent(1, 1) = 0", reconciled(0, 0), "cutoff() = 1",
            Script.row("settled", 0, 480, 0, 0, 0, 0, -485, 0, 5));
    }

    /** Only the presentments since the latest cut-off are counted, and each for its own acquirer. */
    private static void otherPaymentsMeanwhile() {
        SCRIPT.run("two presentments, one on each side of the cut-off", START, "present(1, 1, 500) = 20", "cutoff() = 1",
            "present(1, 2, 100) = 4", "chargeback(1, 1) = 500", "present(3, 1, 200) = 20",
            Script.row("position", 0, -404, 0, 180, -185, 0, 403, 0, 6), reconciled(1, 100), "reconcile(3, 1, 200) = true",
            "reconcile(3, 2, 300) = false", "chargeback(3, 1) = 200",
            Script.row("position", 0, -404, 0, -20, 15, 0, 403, 0, 6), "reconcile(3, 1, 200) = true", "cutoff() = 4",
            Script.row("settled", 0, 76, 0, -20, 15, 0, -82, 0, 11), reconciled(0, 0), "reconcile(3, 1, 200) = false",
            "reconcile(3, 0, 0) = true");
    }

    /** Each step with its two cut-offs can be lost; what was settled before the lost ones stays settled. */
    private static void eachCrash() {
        String steps = """
            present(1, 1, 500) = 20
            cutoff() = 1
            chargeback(1, 1) = 500
            cutoff() = 1
            represent(1, 1) = 500
            cutoff() = 1
            """;
        String[] left = {
            "state(1, 1) = 8\n" + NO_POSITION + Script.row("settled", 0, 480, 0, 0, 0, 0, -485, 0, 5) + reconciled(0, 0) + "cutoff() = 0",
            "state(1, 1) = 8\n" + Script.row("position", 0, 500, 0, 0, 0, 0, -500, 0, 0)
                + Script.row("settled", 0, -20, 0, 0, 0, 0, 15, 0, 5) + reconciled(0, 0) + "cutoff() = 1",
            "state(1, 1) = 7\n" + NO_POSITION + Script.row("settled", 0, -20, 0, 0, 0, 0, 15, 0, 5) + reconciled(0, 0) + "cutoff() = 0",
            "state(1, 1) = 7\n" + Script.row("position", 0, -500, 0, 0, 0, 0, 500, 0, 0)
                + Script.row("settled", 0, 480, 0, 0, 0, 0, -485, 0, 5) + reconciled(0, 0) + "cutoff() = 1",
            "state(1, 1) = 6\n" + NO_POSITION + Script.row("settled", 0, 480, 0, 0, 0, 0, -485, 0, 5) + reconciled(0, 0) + "cutoff() = 0",
            "state(1, 1) = 6\n" + Script.row("position", 0, 480, 0, 0, 0, 0, -485, 0, 5)
                + NONE_SETTLED + reconciled(1, 500) + "cutoff() = 1",
            "state(1, 1) = 2\n" + NO_POSITION + NONE_SETTLED + reconciled(0, 0) + "cutoff() = 0",
        };
        for (int n = 0; n < left.length; n++) {
            SCRIPT.run("the latest " + n + " of 6 are lost", START, steps, "crash(" + n + ") = true", left[n]);
        }
    }

    /** A cut-off is no new beginning for the clocks of a key. */
    private static void notAfterTheClock() {
        SCRIPT.run("the chargeback's time goes on", START, """
            present(1, 1, 500) = 20
            tick(30) = 30
            cutoff() = 1
            tick(1) = 31
            chargeback(1, 1) = LATE
            cutoff() = 0
            """);
        SCRIPT.run("the representment's time goes on", START, """
            present(1, 1, 500) = 20
            chargeback(1, 1) = 500
            tick(30) = 30
            cutoff() = 2
            state(1, 1) = 7
            tick(1) = 31
            state(1, 1) = 9
            represent(1, 1) = LATE
            cutoff() = 0
            """, NO_POSITION);
    }
}
