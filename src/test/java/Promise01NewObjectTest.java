public final class Promise01NewObjectTest {
    public static void main(String[] args) {
        Script script = new Script();
        script.run("the clock is 0, and nothing is there",
            "tick(0) = 0",
            "unwritten() = 0",
            "flush() = 0",
            "crash(1) = false",
            "crash(0) = true",
            "cutoff() = 0",
            Script.lines("state(#, 1) = 0\n state(#, 9999) = 0\n held(#, 1) = 0\n reconcile(#, 0, 0) = true", 0, 3),
            Script.lines("position(#) = 0\n settled(#) = 0", 0, 8),
            "available(10000008) = UNKNOWN",
            "available(0) = UNKNOWN",
            "chargeback(0, 1) = ABSENT",
            "represent(0, 1) = ABSENT",
            "present(0, 1, 1) = ABSENT",
            "unwritten() = 0");
        script.run("there is room for all routes", Script.lines("route(#, 0, 0) = true", 1, 6), "route(7, 0, 0) = false");
        script.run("there is room for all keys", Script.lines("reverse(0, #, 0) = 0", 1, 40), "reverse(0, 41, 0) = FULL");
        script.run("the first card is number 1", "card(10000008, 0, 0) = 1");
        objectsShareNothing(script);
        script.finish();
    }

    private static void objectsShareNothing(Script script) {
        CardSwitch used = new CardSwitch();
        used.tick(5);
        used.route(1, 0, 100);
        used.card(10000008, 100, 0);
        used.authorise(0, 1, 10000008, 10, false);
        used.present(0, 1, 10);
        script.run("a second object is new", "tick(0) = 0", "available(10000008) = UNKNOWN", "state(0, 1) = 0",
            "position(0) = 0", "unwritten() = 0", "cutoff() = 0");
    }
}
