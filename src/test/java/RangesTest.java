/**
 * Each range of the document, at its first and last value, just outside of both, and at the least and
 * greatest int. What is out of range is refused and alters nothing; what is at an end has its effect.
 */
public final class RangesTest {
    private static final Script SCRIPT = new Script();
    private static final String START = """
        route(1, 2, 400) = true
        card(10000008, 1000000, -1000000) = 1
        authorise(1, 2, 10000008, 100, false) = 100
        authorise(1, 6, 10000008, 100, false) = 100
        authorise(1, 7, 10000008, 100, false) = 100
        present(1, 6, 100) = 4
        present(1, 7, 100) = 4
        chargeback(1, 7) = 100
        """;

    public static void main(String[] args) {
        Twins twins = new Twins(SCRIPT, "out of range", START);
        routes(twins);
        cards(twins);
        keys(twins);
        amounts(twins);
        left(twins);
        ticks(twins);
        crashes(twins);
        parties(twins);
        totals(twins);
        anyIntAsANumber(twins);
        SCRIPT.finish();
    }

    private static void refused(Twins twins, String line, int low, int high) {
        twins.unaltered(Script.each(line, Script.outside(low, high)));
    }

    /** Prefix 1 .. 9999, issuer 0 .. 3, rate 0 .. 2000; for a new prefix and for one that is there. */
    private static void routes(Twins twins) {
        refused(twins, "route(#, 0, 100) = false", 1, 9999);
        refused(twins, "route(1, #, 100) = false", 0, 3);
        refused(twins, "route(2, #, 100) = false", 0, 3);
        refused(twins, "route(1, 0, #) = false", 0, 2000);
        refused(twins, "route(2, 0, #) = false", 0, 2000);
        for (int issuer = 0; issuer <= 3; issuer++) {
            routeAtItsEnds("1", issuer, 10000008);
            routeAtItsEnds("9999", issuer, 99999997);
        }
    }

    private static void routeAtItsEnds(String prefix, int issuer, int number) {
        for (int rate : new int[] {0, 1, 1999, 2000}) {
            SCRIPT.run("a route at its ends",
                "route(" + prefix + ", " + issuer + ", " + rate + ") = true",
                "unwritten() = 1",
                "card(" + number + ", 100000, 0) = 1",
                "authorise(0, 1, " + number + ", 10000, false) = 10000",
                "present(0, 1, 10000) = " + rate,
                "position(" + (4 + issuer) + ") = " + (rate * 3 / 4 - 10000));
        }
    }

    /** The number 10000000 .. 99999999, balance and floor -1000000 .. 1000000, balance not less than floor. */
    private static void cards(Twins twins) {
        refused(twins, "card(#, 0, 0) = BAD", 10000000, 99999999);
        refused(twins, "card(20000006, #, -1000000) = BAD", -1000000, 1000000);
        refused(twins, "card(20000006, 1000000, #) = BAD", -1000000, 1000000);
        refused(twins, "card(20000006, #, #) = BAD", -1000000, 1000000);
        twins.unaltered("""
            card(20000006, -1000000, -999999) = BAD
            card(20000006, 999999, 1000000) = BAD
            card(20000006, -1, 0) = BAD
            card(20000006, 0, 1) = BAD
            card(20000006, -1000000, 1000000) = BAD
            card(20000006, -2147483648, 2147483647) = BAD
            card(20000006, 2147483647, -2147483648) = BAD
            """);
        SCRIPT.run("a card at its ends", """
            card(10000008, 1000000, -1000000) = 1
            available(10000008) = 2000000
            card(20000006, -1000000, -1000000) = 2
            available(20000006) = 0
            card(30000004, 1000000, 1000000) = 3
            available(30000004) = 0
            card(40000002, -999999, -1000000) = 4
            available(40000002) = 1
            card(50000009, 1000000, 999999) = 5
            available(50000009) = 1
            card(99999997, 0, 0) = 6
            available(99999997) = 0
            unwritten() = 6
            """);
    }

    /** Acquirer 0 .. 3, trace 1 .. 9999, in each call that takes a key, whatever its other arguments. */
    private static void keys(Twins twins) {
        String[] calls = {"authorise(KEY, 10000008, 100, false)", "authorise(KEY, 10000008, 100, true)", "reverse(KEY, 0)",
            "reverse(KEY, 100000)", "present(KEY, 100)", "chargeback(KEY)", "represent(KEY)", "state(KEY)", "held(KEY)"};
        for (String call : calls) {
            for (int trace : new int[] {1, 2, 6, 7, 9999}) {
                refused(twins, call.replace("KEY", "#, " + trace) + " = BAD", 0, 3);
            }
            for (int acquirer = 0; acquirer <= 3; acquirer++) {
                refused(twins, call.replace("KEY", acquirer + ", #") + " = BAD", 1, 9999);
            }
            twins.unaltered(call.replace("KEY", "-2147483648, 2147483647") + " = BAD");
        }
        for (int acquirer = 0; acquirer <= 3; acquirer++) {
            for (int trace : new int[] {1, 2, 9998, 9999}) {
                lifeOfAKey(acquirer, trace);
            }
        }
    }

    private static void lifeOfAKey(int acquirer, int trace) {
        String life = """
            route(1, 2, 400) = true
            card(10000008, 1000, 0) = 1
            state(KEY) = 0
            held(KEY) = 0
            present(KEY, 1) = ABSENT
            chargeback(KEY) = ABSENT
            represent(KEY) = ABSENT
            authorise(KEY, 10000008, 500, false) = 500
            authorise(KEY, 10000008, 500, false) = 500
            state(KEY) = 2
            held(KEY) = 500
            reverse(KEY, 400) = 100
            held(KEY) = 400
            present(KEY, 400) = 16
            state(KEY) = 6
            chargeback(KEY) = 400
            held(KEY) = 400
            represent(KEY) = 400
            state(KEY) = 8
            position(ACQUIRER) = 384
            reconcile(ACQUIRER, 1, 400) = true
            """;
        String key = acquirer + ", " + trace;
        SCRIPT.run("the life of key " + key, life.replace("KEY", key).replace("ACQUIRER", "" + acquirer));
        SCRIPT.run("the stopped key " + key,
            "reverse(" + key + ", 0) = 0",
            "state(" + key + ") = 5",
            "authorise(" + key + ", 10000008, 1, true) = REVERSED",
            "unwritten() = 1");
    }

    /** Amounts 1 .. 100000, in every state that a key can be in. */
    private static void amounts(Twins twins) {
        refused(twins, "authorise(0, 1, 10000008, #, false) = BAD", 1, 100000);
        refused(twins, "authorise(0, 1, 10000008, #, true) = BAD", 1, 100000);
        refused(twins, "authorise(0, 1, 20000006, #, true) = BAD", 1, 100000);
        refused(twins, "authorise(1, 2, 10000008, #, false) = BAD", 1, 100000);
        refused(twins, "present(0, 1, #) = BAD", 1, 100000);
        refused(twins, "present(1, 2, #) = BAD", 1, 100000);
        refused(twins, "present(1, 6, #) = BAD", 1, 100000);
        refused(twins, "present(1, 7, #) = BAD", 1, 100000);
        SCRIPT.run("amounts at their ends", START, """
            authorise(0, 1, 10000008, 1, false) = 1
            held(0, 1) = 1
            tick(10) = 10
            authorise(0, 2, 10000008, 100000, false) = 100000
            held(0, 2) = 100000
            authorise(0, 3, 10000008, 100000, true) = 100000
            authorise(0, 4, 10000008, 1, true) = 1
            authorise(0, 5, 10000008, 99999, true) = 99999
            present(0, 1, 1) = 1
            present(0, 2, 100000) = 4000
            present(0, 3, 1) = 1
            present(0, 4, 100000) = OVER
            present(0, 4, 1) = 1
            present(0, 5, 100000) = OVER
            present(0, 5, 99999) = 4000
            available(10000008) = 1799698
            """);
    }

    /** Left 0 .. 100000, for keys in use and for others. */
    private static void left(Twins twins) {
        refused(twins, "reverse(0, 1, #) = BAD", 0, 100000);
        refused(twins, "reverse(1, 2, #) = BAD", 0, 100000);
        refused(twins, "reverse(1, 6, #) = BAD", 0, 100000);
        SCRIPT.run("left at its ends", START, """
            tick(10) = 10
            authorise(0, 1, 10000008, 100000, false) = 100000
            reverse(0, 1, 100000) = 0
            held(0, 1) = 100000
            reverse(0, 1, 99999) = 1
            held(0, 1) = 99999
            reverse(0, 1, 1) = 99998
            state(0, 1) = 2
            held(0, 1) = 1
            reverse(0, 1, 0) = 1
            state(0, 1) = 4
            reverse(0, 2, 0) = 0
            state(0, 2) = 5
            reverse(0, 3, 1) = 0
            state(0, 3) = 5
            reverse(0, 4, 100000) = 0
            state(0, 4) = 5
            """);
    }

    /** "The clock goes on by n, when n is 1 .. 100." */
    private static void ticks(Twins twins) {
        refused(twins, "tick(#) = 0", 1, 100);
        SCRIPT.run("ticks at their ends", """
            tick(1) = 1
            tick(100) = 101
            tick(2) = 103
            tick(99) = 202
            """, Script.each("tick(#) = 202", Script.outside(1, 100)), "tick(1) = 203");
    }

    /** N of crash 0 .. unwritten(), where 0, 1, 15, 16 and, after a further change, 1 are unwritten. */
    private static void crashes(Twins twins) {
        refused(twins, "crash(#) = false", 0, 8);
        for (int unwritten : new int[] {0, 1, 15, 16}) {
            String changes = Script.lines("reverse(0, #, 0) = 0", 1, unwritten);
            String refusals = Script.each("crash(#) = false", Script.outside(0, unwritten)) + "unwritten() = " + unwritten + "\n";
            for (int n : new int[] {0, unwritten}) {
                SCRIPT.run(unwritten + " unwritten, " + n + " are lost", changes, refusals,
                    "crash(" + n + ") = true", "unwritten() = 0",
                    Script.lines("state(0, #) = 5", 1, unwritten - n), Script.lines("state(0, #) = 0", unwritten - n + 1, 17));
            }
        }
        SCRIPT.run("17 changes", Script.lines("reverse(0, #, 0) = 0", 1, 17), Script.each("crash(#) = false", -1, 2, 16, 17),
            "crash(1) = true", Script.lines("state(0, #) = 5", 1, 16), "state(0, 17) = 0");
    }

    /** "0 when party is not 0 .. 8": each party has a position and a settled sum of its own. */
    private static void parties(Twins twins) {
        refused(twins, "position(#) = 0", 0, 8);
        refused(twins, "settled(#) = 0", 0, 8);
        String payments = """
            route(1, 0, 2000) = true
            route(2, 1, 2000) = true
            route(3, 2, 2000) = true
            route(4, 3, 2000) = true
            card(10000008, 1000, 0) = 1
            card(20000006, 1000, 0) = 2
            card(30000004, 1000, 0) = 3
            card(40000002, 1000, 0) = 4
            authorise(0, 1, 10000008, 100, false) = 100
            authorise(1, 1, 20000006, 200, false) = 200
            authorise(2, 1, 30000004, 300, false) = 300
            authorise(3, 1, 40000002, 400, false) = 400
            present(0, 1, 100) = 20
            present(1, 1, 200) = 40
            present(2, 1, 300) = 60
            present(3, 1, 400) = 80
            """;
        String sums = """
            SUM(0) = 80
            SUM(1) = 160
            SUM(2) = 240
            SUM(3) = 320
            SUM(4) = -85
            SUM(5) = -170
            SUM(6) = -255
            SUM(7) = -340
            SUM(8) = 50
            """ + Script.each("SUM(#) = 0", Script.outside(0, 8));
        SCRIPT.run("the nine positions", payments, sums.replace("SUM", "position"), Script.lines("settled(#) = 0", 0, 8));
        SCRIPT.run("the nine settled sums", payments, "cutoff() = 4", sums.replace("SUM", "settled"),
            Script.lines("position(#) = 0", 0, 8));
    }

    /** "False when the acquirer is not 0 .. 3", also where 0 and 0 would be true of an acquirer. */
    private static void totals(Twins twins) {
        refused(twins, "reconcile(#, 0, 0) = false", 0, 3);
        refused(twins, "reconcile(#, 2, 200) = false", 0, 3);
        twins.unaltered(
            Script.each("reconcile(1, #, 200) = false", 0, 1, 3, -2, Integer.MIN_VALUE, Integer.MAX_VALUE),
            Script.each("reconcile(1, 2, #) = false", 0, 199, 201, -200, Integer.MIN_VALUE, Integer.MAX_VALUE),
            Script.each("reconcile(1, 2, #) = false", Long.MIN_VALUE, Long.MAX_VALUE, 200 + (1L << 32), 200 - (1L << 32)),
            Script.each("reconcile(0, 0, #) = false", 1, -1, Long.MIN_VALUE, Long.MAX_VALUE, 1L << 32),
            Script.each("reconcile(3, #, 0) = false", 1, -1, Integer.MIN_VALUE, Integer.MAX_VALUE),
            "reconcile(1, 2, 200) = true",
            Script.each("reconcile(#, 0, 0) = true", 0, 2, 3),
            "reconcile(1, 0, 0) = false");
    }

    /** "Any int may be asked": also what is no card number, and what a row that is not in use may hold. */
    private static void anyIntAsANumber(Twins twins) {
        twins.unaltered(Script.each("available(#) = UNKNOWN", 0, 1, -1, 9999999, 10000000, 99999999, 100000000,
            Integer.MIN_VALUE, Integer.MAX_VALUE, 10000007, 10000009, -10000008, 20000006, 99999997));
        SCRIPT.run("nothing entered",
            Script.each("available(#) = UNKNOWN", 0, -1, 10000008, Integer.MIN_VALUE, Integer.MAX_VALUE));
    }
}
