/**
 * "All other calls alter nothing": each call that is refused, answered again or only asks, in an object
 * with keys in every state, with 16 unwritten changes and with fewer, and in one that is full.
 */
public final class NothingAlteredTest {
    private static final Script SCRIPT = new Script();

    public static void main(String[] args) {
        everyState(new Twins(SCRIPT, "every state, 16 unwritten", Scenes.EVERY_STATE));
        everyState(new Twins(SCRIPT, "every state, none unwritten", Scenes.EVERY_STATE + "flush() = 16\n"));
        everyState(new Twins(SCRIPT, "every state, 3 unwritten", Scenes.EVERY_STATE + """
            flush() = 16
            card(20000006, 500, 0) = 2
            route(2, 1, 50) = true
            reverse(0, 1, 0) = 0
            """));
        nothingThereYet();
        noItems();
        tooLittleAvailable();
        fullObject();
        SCRIPT.finish();
    }

    private static void everyState(Twins twins) {
        wrongArguments(twins);
        requests(twins);
        reversals(twins);
        presentments(twins);
        disputes(twins);
        questions(twins);
    }

    private static void wrongArguments(Twins twins) {
        twins.unaltered("""
            route(0, 0, 0) = false
            route(10000, 0, 0) = false
            route(1, -1, 0) = false
            route(1, 4, 0) = false
            route(1, 0, -1) = false
            route(1, 0, 2001) = false
            card(10000007, 1, 0) = BAD
            card(30000004, 1000001, 0) = BAD
            card(30000004, 0, -1000001) = BAD
            card(30000004, 0, 1) = BAD
            card(10000008, 2000, 0) = DUPLICATE
            card(10000008, 5, 5) = DUPLICATE
            authorise(4, 1, 10000008, 100, false) = BAD
            authorise(1, 0, 10000008, 100, false) = BAD
            authorise(1, 11, 10000007, 100, false) = BAD
            authorise(1, 11, 10000008, 0, false) = BAD
            authorise(1, 11, 10000008, 100001, true) = BAD
            reverse(-1, 2, 0) = BAD
            reverse(1, 10000, 0) = BAD
            reverse(1, 2, -1) = BAD
            reverse(1, 11, 100001) = BAD
            present(4, 2, 100) = BAD
            present(1, 0, 100) = BAD
            present(1, 2, 0) = BAD
            present(1, 6, 100001) = BAD
            chargeback(4, 6) = BAD
            chargeback(1, 0) = BAD
            represent(-1, 7) = BAD
            represent(1, 10000) = BAD
            tick(0) = 50
            tick(-1) = 50
            tick(101) = 50
            crash(-1) = false
            crash(17) = false
            crash(2147483647) = false
            crash(-2147483648) = false
            """);
    }

    /** "REVERSED ..; else .. what that request was answered .., otherwise DUPLICATE; none of these is a change." */
    private static void requests(Twins twins) {
        twins.unaltered(
            "authorise(1, 1, 10000008, 100, false) = BUSY",
            Script.lines("authorise(1, #, 10000008, 100, false) = 100", 2, 4),
            Script.lines("authorise(1, #, 10000008, 100, false) = 100", 6, 10),
            "authorise(1, 5, 10000008, 100, false) = REVERSED",
            Script.lines("authorise(1, #, 10000008, 100, true) = DUPLICATE", 1, 4),
            Script.lines("authorise(1, #, 10000008, 99, false) = DUPLICATE", 6, 10),
            Script.lines("authorise(1, #, 20000006, 100, false) = DUPLICATE", 1, 4));
    }

    private static void reversals(Twins twins) {
        twins.unaltered("""
            reverse(1, 1, 0) = 0
            reverse(1, 1, 100) = 0
            reverse(1, 2, 100) = 0
            reverse(1, 2, 101) = 0
            reverse(1, 2, 100000) = 0
            reverse(1, 3, 100) = 0
            reverse(1, 3, 100000) = 0
            reverse(1, 4, 0) = 0
            reverse(1, 4, 100) = 0
            reverse(1, 5, 0) = 0
            reverse(1, 5, 100) = 0
            """, Script.lines("reverse(1, #, 0) = LATE\n reverse(1, #, 100000) = LATE", 6, 10));
    }

    /** "In states 6 to 9: the fee .., otherwise DUPLICATE; neither is a change." */
    private static void presentments(Twins twins) {
        twins.unaltered(Script.lines("present(1, #, 100) = 4", 6, 10),
            Script.lines("present(1, #, 99) = DUPLICATE\n present(1, #, 101) = DUPLICATE", 6, 10), """
            present(1, 11, 100) = ABSENT
            present(1, 1, 100) = ABSENT
            present(1, 4, 100) = ABSENT
            present(1, 5, 100) = ABSENT
            present(1, 2, 101) = OVER
            present(1, 2, 100000) = OVER
            present(1, 3, 101) = OVER
            """);
    }

    private static void disputes(Twins twins) {
        twins.unaltered(Script.lines("chargeback(1, #) = ABSENT", 1, 5), """
            chargeback(1, 11) = ABSENT
            chargeback(1, 7) = 0
            chargeback(1, 8) = 0
            chargeback(1, 9) = 0
            chargeback(1, 10) = LATE
            represent(1, 11) = ABSENT
            represent(1, 8) = 0
            represent(1, 9) = LATE
            represent(1, 10) = ABSENT
            """, Script.lines("represent(1, #) = ABSENT", 1, 6));
    }

    private static void questions(Twins twins) {
        twins.unaltered("""
            reconcile(1, 2, 200) = true
            reconcile(1, 3, 200) = false
            reconcile(4, 0, 0) = false
            state(0, 9999) = 0
            state(4, 1) = BAD
            held(0, 9999) = 0
            held(1, 7) = 100
            held(1, 0) = BAD
            available(90000001) = UNKNOWN
            available(-1) = UNKNOWN
            position(8) = 2
            position(9) = 0
            settled(0) = 0
            settled(-1) = 0
            """);
    }

    private static void nothingThereYet() {
        new Twins(SCRIPT, "a new object", "").unaltered("""
            route(0, 0, 0) = false
            card(10000007, 0, 0) = BAD
            authorise(0, 0, 10000008, 1, false) = BAD
            reverse(0, 1, -1) = BAD
            present(0, 1, 100) = ABSENT
            chargeback(0, 1) = ABSENT
            represent(0, 1) = ABSENT
            reconcile(0, 0, 0) = true
            cutoff() = 0
            tick(0) = 0
            flush() = 0
            crash(1) = false
            crash(0) = true
            unwritten() = 0
            state(0, 1) = 0
            held(0, 1) = 0
            available(10000008) = UNKNOWN
            position(0) = 0
            settled(0) = 0
            """);
    }

    /** "When that is 0, nothing happens": also after a cut-off, and where 16 are unwritten. */
    private static void noItems() {
        new Twins(SCRIPT, "no items since the cut-off", Scenes.EVERY_STATE + "cutoff() = 5\n").unaltered("cutoff() = 0");
        new Twins(SCRIPT, "no items, 16 unwritten", Script.lines("reverse(0, #, 0) = 0", 1, 16)).unaltered("cutoff() = 0");
    }

    private static void tooLittleAvailable() {
        new Twins(SCRIPT, "lapsed, and 99 are available", """
            route(1, 2, 400) = true
            card(10000008, 199, 0) = 1
            authorise(1, 1, 10000008, 100, false) = 100
            tick(50) = 50
            authorise(1, 2, 10000008, 100, false) = 100
            """).unaltered("""
            present(1, 1, 100) = SHORT
            present(1, 1, 101) = OVER
            """);
    }

    /** "When the prefix is new and 6 routes are there", "when 8 cards are there", "when 40 keys are in use". */
    private static void fullObject() {
        new Twins(SCRIPT, "a full object", Scenes.full()).unaltered("""
            route(7, 0, 100) = false
            route(10, 0, 100) = false
            card(90000001, 1000, 0) = FULL
            card(80000003, 1000, 0) = DUPLICATE
            authorise(1, 11, 10000008, 100, false) = FULL
            authorise(1, 11, 90000001, 100, false) = FULL
            authorise(0, 1, 90000001, 100, false) = UNKNOWN
            authorise(0, 1, 90000001, 101, false) = DUPLICATE
            authorise(2, 1, 10000008, 100, false) = REVERSED
            reverse(1, 11, 0) = FULL
            reverse(2, 1, 0) = 0
            present(1, 11, 100) = ABSENT
            """);
    }
}
