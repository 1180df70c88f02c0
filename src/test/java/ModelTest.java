import java.util.Random;
import java.util.TreeMap;

/** Long runs of mixed calls, always the same ones, in which CardSwitch and Model must answer alike. */
public final class ModelTest {
    private static final int RUNS = 1500;
    private static final int CALLS = 512;
    private static final int[] NUMBERS = {
        10000008, 12034567, 12040002, 12100004, 11200003, 20000006, 30000004, 40000002, 50000009, 60000007, 10000007
    };
    private static final int[] PREFIXES = {1, 12, 120, 1203, 11, 2, 3, 4, 1000, 0, 10000};
    private static final int[] AMOUNTS = {1, 2, 10, 50, 99, 100, 400, 999, 1000, 100000, 0, 100001};
    private static final int[] TICKS = {1, 1, 2, 3, 5, 9, 10, 19, 20, 30, 31, 49, 50, 0, 101};

    private final Script script = new Script();
    private final TreeMap<String, Integer> seen = new TreeMap<>();
    private Random random;
    private CardSwitch subject;
    private Model model;
    private int run;
    private int traces;
    private int acquirer;
    private int trace;
    private int ticking;

    public static void main(String[] args) {
        ModelTest test = new ModelTest();
        for (int run = 1; run <= RUNS; run++) {
            test.oneRun(run);
        }
        test.checkThatAllWasSeen();
        test.script.finish();
    }

    private void oneRun(int number) {
        run = number;
        random = new Random(run);
        subject = new CardSwitch();
        model = new Model();
        traces = run % 3 == 0 ? 15 : 4 + random.nextInt(7);
        ticking = 1 + random.nextInt(8);
        for (int i = 0; i < 12; i++) {
            route();
            card();
        }
        compare("flush", subject.flush(), model.flush());
        for (int calls = 25; calls < CALLS; calls++) {
            oneCall();
        }
    }

    private void oneCall() {
        int choice = random.nextInt(100 + ticking);
        if (choice < 20) {
            authorise();
        } else if (choice < 26) {
            reverse();
        } else if (choice < 40) {
            present();
        } else if (choice < 60) {
            dispute();
        } else if (choice < 64) {
            route();
        } else if (choice < 66) {
            card();
        } else if (choice < 70) {
            compare("cutoff", subject.cutoff(), model.cutoff());
        } else if (choice < 73) {
            crash();
        } else if (choice < 75) {
            compare("flush", subject.flush(), model.flush());
        } else if (choice < 100) {
            ask();
        } else {
            int n = one(TICKS);
            compare("tick(" + n + ")", subject.tick(n), model.tick(n));
        }
    }

    private int one(int[] of) {
        return of[random.nextInt(of.length)];
    }

    /** Chooses a key, mostly one with a state low .. high, so that payments come through all their states. */
    private void chooseKey(int low, int high) {
        int tries = random.nextInt(4) == 0 ? 1 : 30;
        for (int i = 0; i < tries; i++) {
            acquirer = random.nextInt(60) == 0 ? 4 - 5 * random.nextInt(2) : random.nextInt(4);
            trace = random.nextInt(60) == 0 ? 10000 * random.nextInt(2) : 1 + random.nextInt(traces);
            int state = model.state(acquirer, trace);
            if (state >= low && state <= high) {
                return;
            }
        }
    }

    private int amount() {
        return random.nextInt(3) == 0 ? 1 + random.nextInt(1200) : one(AMOUNTS);
    }

    private void compare(String call, long got, long want) {
        script.due("run " + run, call, String.valueOf(got), String.valueOf(want));
        String kind = want < 0 ? String.valueOf(want) : want == 0 ? "0" : "more";
        int open = call.indexOf('(');
        seen.merge((open < 0 ? call : call.substring(0, open)) + " " + kind, 1, Integer::sum);
    }

    private void route() {
        int prefix = one(PREFIXES);
        int issuer = random.nextInt(40) == 0 ? 4 : random.nextInt(4);
        int rate = random.nextInt(40) == 0 ? 2001 : random.nextInt(2001);
        compare("route(" + prefix + ", " + issuer + ", " + rate + ")",
            subject.route(prefix, issuer, rate) ? 1 : 0, model.route(prefix, issuer, rate) ? 1 : 0);
    }

    private void card() {
        int number = one(NUMBERS);
        int floor = random.nextInt(500) - 250;
        int balance = floor + random.nextInt(2000) - 50;
        compare("card(" + number + ", " + balance + ", " + floor + ")",
            subject.card(number, balance, floor), model.card(number, balance, floor));
    }

    private void authorise() {
        chooseKey(0, random.nextInt(4) == 0 ? 9 : 0);
        int number = NUMBERS[random.nextInt(2) * random.nextInt(NUMBERS.length)];
        int amount = random.nextBoolean() ? 100 : amount();
        boolean partial = random.nextBoolean();
        String call = "authorise(" + acquirer + ", " + trace + ", " + number + ", " + amount + ", " + partial + ")";
        int answer = model.authorise(acquirer, trace, number, amount, partial);
        compare(call, subject.authorise(acquirer, trace, number, amount, partial), answer);
    }

    private void reverse() {
        chooseKey(random.nextInt(8) == 0 ? 0 : 1, 5);
        int left = random.nextInt(3) == 0 ? 0 : amount() - 1;
        compare("reverse(" + acquirer + ", " + trace + ", " + left + ")",
            subject.reverse(acquirer, trace, left), model.reverse(acquirer, trace, left));
    }

    private void present() {
        chooseKey(2, 3);
        int held = model.held(acquirer, trace);
        int amount = held > 0 && random.nextBoolean() ? held : random.nextBoolean() ? 50 : amount();
        compare("present(" + acquirer + ", " + trace + ", " + amount + ")",
            subject.present(acquirer, trace, amount), model.present(acquirer, trace, amount));
    }

    private void dispute() {
        boolean back = random.nextInt(5) < 3;
        chooseKey(back ? 6 : 7, back ? 6 : 8);
        String key = "(" + acquirer + ", " + trace + ")";
        if (back) {
            compare("chargeback" + key, subject.chargeback(acquirer, trace), model.chargeback(acquirer, trace));
        } else {
            compare("represent" + key, subject.represent(acquirer, trace), model.represent(acquirer, trace));
        }
    }

    private void crash() {
        int n = random.nextInt(8) == 0 ? random.nextInt(19) - 1 : random.nextInt(1 + model.unwritten());
        compare("crash(" + n + ")", subject.crash(n) ? 1 : 0, model.crash(n) ? 1 : 0);
    }

    private void ask() {
        chooseKey(1, 9);
        int number = one(NUMBERS);
        int party = random.nextInt(11) - 1;
        String key = "(" + acquirer + ", " + trace + ")";
        compare("state" + key, subject.state(acquirer, trace), model.state(acquirer, trace));
        seen.merge("in state " + model.state(acquirer, trace), 1, Integer::sum);
        compare("held" + key, subject.held(acquirer, trace), model.held(acquirer, trace));
        compare("available(" + number + ")", subject.available(number), model.available(number));
        compare("position(" + party + ")", subject.position(party), model.position(party));
        compare("settled(" + party + ")", subject.settled(party), model.settled(party));
        compare("unwritten", subject.unwritten(), model.unwritten());
        int count = model.presentments(acquirer) + random.nextInt(10) / 9;
        long total = model.presented(acquirer) + random.nextInt(10) / 9;
        boolean due = acquirer >= 0 && acquirer <= 3
            && count == model.presentments(acquirer) && total == model.presented(acquirer);
        compare("reconcile(" + acquirer + ", " + count + ", " + total + ")",
            subject.reconcile(acquirer, count, total) ? 1 : 0, due ? 1 : 0);
    }

    /** Runs that never come to an answer would not test it. */
    private void checkThatAllWasSeen() {
        String[] due = {
            "authorise -1", "authorise -2", "authorise -3", "authorise -4", "authorise -5", "authorise -6",
            "authorise -7", "authorise -8", "authorise more", "reverse -1", "reverse -3", "reverse -9", "reverse 0",
            "reverse more", "present -1", "present -2", "present -7", "present -10", "present -11", "present more",
            "chargeback -1", "chargeback -9", "chargeback -11", "chargeback 0", "chargeback more", "represent -1",
            "represent -9", "represent -11", "represent 0", "represent more", "card -1", "card -2", "card -3",
            "card more", "route 0", "route more", "crash 0", "crash more", "cutoff 0", "cutoff more", "in state 0",
            "in state 1", "in state 2", "in state 3", "in state 4", "in state 5", "in state 6", "in state 7",
            "in state 8", "in state 9"
        };
        for (String kind : due) {
            script.due("all runs", kind, seen.getOrDefault(kind, 0) >= 100 ? "seen" : "hardly seen", "seen");
        }
    }
}
