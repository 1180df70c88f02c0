/**
 * "Keys that are in use stay with the issuer and the rate that they had": in each state that a key can be in
 * when route gives the prefix another issuer and rate, or a longer prefix comes, and after a crash lost that.
 */
public final class IssuerAndRateTest {
    private static final Script SCRIPT = new Script();

    /** The key (0, 1) has issuer 2 (party 6) and the rate 400. */
    private static final String START = """
        route(1, 2, 400) = true
        card(10000008, 1000, 0) = 1
        authorise(0, 1, 10000008, 600, false) = 600
        flush() = 3
        """;

    /** What comes of the routes, and whether the card's route is the old one again at the end. */
    private static final String[][] ROUTES = {
        {"nothing", "", "old"},
        {"another issuer and rate", "route(1, 0, 2000) = true", "new"},
        {"the same issuer and rate once more", "route(1, 2, 400) = true", "old"},
        {"a longer prefix", "route(10, 0, 2000) = true", "new"},
        {"the longest prefix", "route(1000, 0, 2000) = true", "new"},
        {"another prefix of the same length", "route(2, 0, 2000) = true", "old"},
        {"a longer prefix that does not fit", "route(1001, 0, 2000) = true", "old"},
        {"another issuer and rate, lost", "route(1, 0, 2000) = true\n crash(1) = true", "old"},
        {"others twice, both lost", "route(1, 3, 0) = true\n route(1, 0, 2000) = true\n crash(2) = true", "old"},
        {"others twice, the second lost", "route(1, 0, 2000) = true\n route(1, 3, 0) = true\n crash(1) = true", "new"},
        {"a longer prefix, lost", "route(10, 0, 2000) = true\n crash(1) = true", "old"},
        {"others and a longer prefix, the latter lost", "route(1, 0, 2000) = true\n route(10, 3, 0) = true\n crash(1) = true", "new"},
        {"others and back again", "route(1, 0, 2000) = true\n route(1, 2, 400) = true", "old"},
        {"others, written", "route(1, 0, 2000) = true\n crash(0) = true\n crash(1) = false", "new"},
        {"a lost prefix, entered anew", "route(10, 3, 0) = true\n crash(1) = true\n route(10, 0, 2000) = true", "new"},
    };

    public static void main(String[] args) {
        for (String[] routes : ROUTES) {
            keyInUse(routes[0], routes[1]);
            nextKey(routes[0], routes[1], routes[2].equals("old"));
        }
        keysOfALostRoute();
        declinedKeysStayDeclined();
        SCRIPT.finish();
    }

    private static String presented() {
        return Script.row("position", 576, 0, 0, 0, 0, 0, -582, 0, 6);
    }

    private static String charged() {
        return Script.row("position", -24, 0, 0, 0, 0, 0, 18, 0, 6);
    }

    /** The change comes while the key is HELD, LAPSED, CLEARED, CHARGED and REPRESENTED. */
    private static void keyInUse(String title, String routes) {
        SCRIPT.run("held: " + title, START, routes, "present(0, 1, 600) = 24", presented());
        SCRIPT.run("lapsed: " + title, START, "tick(50) = 50", routes, "present(0, 1, 600) = 24", presented());
        SCRIPT.run("reversed in part: " + title, START, "reverse(0, 1, 100) = 500", routes, "present(0, 1, 100) = 4",
            Script.row("position", 96, 0, 0, 0, 0, 0, -97, 0, 1));
        SCRIPT.run("cleared: " + title, START, "present(0, 1, 600) = 24", routes, "present(0, 1, 600) = 24", presented(),
            "chargeback(0, 1) = 600", charged());
        SCRIPT.run("charged: " + title, START, "present(0, 1, 600) = 24", "chargeback(0, 1) = 600", routes,
            "present(0, 1, 600) = 24", charged(), "represent(0, 1) = 600", presented());
        SCRIPT.run("represented: " + title, START, "present(0, 1, 600) = 24", "chargeback(0, 1) = 600", "represent(0, 1) = 600",
            routes, "present(0, 1, 600) = 24", presented());
        SCRIPT.run("before each step: " + title, START, routes, "present(0, 1, 600) = 24", presented(), routes,
            "chargeback(0, 1) = 600", charged(), routes, "represent(0, 1) = 600", presented(),
            "cutoff() = 3", Script.row("settled", 576, 0, 0, 0, 0, 0, -582, 0, 6));
    }

    private static void nextKey(String title, String routes, boolean old) {
        String approved = "authorise(0, 2, 10000008, 100, false) = 100";
        String first = old ? "present(0, 2, 100) = 4\n" + Script.row("position", 96, 0, 0, 0, 0, 0, -97, 0, 1)
            : "present(0, 2, 100) = 20\n" + Script.row("position", 80, 0, 0, 0, -85, 0, 0, 0, 5);
        String back = old ? "chargeback(0, 2) = 100\n" + Script.row("position", -4, 0, 0, 0, 0, 0, 3, 0, 1)
            : "chargeback(0, 2) = 100\n" + Script.row("position", -20, 0, 0, 0, 15, 0, 0, 0, 5);
        SCRIPT.run("the next key: " + title, START, routes, approved, first, back);
        SCRIPT.run("the next key, lost and approved anew: " + title, START, routes, approved, "crash(1) = true", approved, first, back);
    }

    /** A key that was approved by a route that was lost is lost as well; what comes next has the older route. */
    private static void keysOfALostRoute() {
        SCRIPT.run("route and key are lost", START, """
            route(1, 0, 2000) = true
            authorise(0, 2, 10000008, 100, false) = 100
            present(0, 2, 100) = 20
            crash(3) = true
            state(0, 2) = 0
            position(4) = 0
            authorise(0, 2, 10000008, 100, false) = 100
            present(0, 2, 100) = 4
            position(4) = 0
            position(6) = -97
            """);
        SCRIPT.run("the presentment is lost, the key's rate is not", START, """
            route(1, 0, 2000) = true
            authorise(0, 2, 10000008, 100, false) = 100
            route(1, 3, 0) = true
            present(0, 2, 100) = 20
            crash(2) = true
            present(0, 2, 100) = 20
            position(4) = -85
            present(0, 1, 600) = 24
            position(6) = -582
            """);
        SCRIPT.run("the route is lost between two presentments", START, """
            authorise(0, 2, 10000008, 100, false) = 100
            present(0, 2, 100) = 4
            route(1, 0, 2000) = true
            crash(1) = true
            present(0, 1, 600) = 24
            position(6) = -679
            position(4) = 0
            """);
    }

    private static void declinedKeysStayDeclined() {
        SCRIPT.run("a route that comes later gives a declined key nothing", """
            card(10000008, 1000, 0) = 1
            authorise(0, 1, 10000008, 600, false) = UNROUTED
            route(1, 2, 400) = true
            state(0, 1) = 1
            present(0, 1, 600) = ABSENT
            authorise(0, 1, 10000008, 600, false) = UNROUTED
            authorise(0, 2, 10000008, 600, false) = 600
            """);
    }
}
