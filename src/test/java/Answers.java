import java.util.ArrayList;
import java.util.List;

/**
 * All that an object answers: first what can be asked of it, then what becomes of further payments, which
 * shows the routes, the rates and the clocks that can't be asked for. It takes about 290 calls, and the
 * object is of no use afterwards. The tests that compare such lists present amounts of 100 alone, under
 * traces 1 .. 12 and 9999, so that reconcile can be asked for what may be due.
 */
final class Answers {
    private static final int[] NUMBERS = {
        10000008, 20000006, 30000004, 40000002, 50000009, 60000007, 70000005, 80000003, 90000001, 12034567
    };
    private static final int[] TRACES = {1, 2, 3, 4, 5, 6, 7, 8, 9, 10, 11, 12, 9999};

    private final List<String> answers = new ArrayList<>();
    private final CardSwitch subject;

    private Answers(CardSwitch subject) {
        this.subject = subject;
    }

    static List<String> of(CardSwitch subject) {
        Answers all = new Answers(subject);
        all.askForState();
        all.askForSums();
        all.payOn();
        return all.answers;
    }

    private void add(String call, Object answer) {
        answers.add(call + " = " + answer);
    }

    private void askForState() {
        add("unwritten()", subject.unwritten());
        add("tick(0)", subject.tick(0));
        for (int acquirer = 0; acquirer <= 3; acquirer++) {
            for (int trace : TRACES) {
                add("state(" + acquirer + ", " + trace + ")", subject.state(acquirer, trace));
                add("held(" + acquirer + ", " + trace + ")", subject.held(acquirer, trace));
            }
        }
        for (int number : NUMBERS) {
            add("available(" + number + ")", subject.available(number));
        }
    }

    private void askForSums() {
        for (int party = 0; party <= 8; party++) {
            add("position(" + party + ")", subject.position(party));
            add("settled(" + party + ")", subject.settled(party));
        }
        for (int acquirer = 0; acquirer <= 3; acquirer++) {
            for (int count = 0; count <= 3; count++) {
                for (int total = 0; total <= 300; total += 100) {
                    add("reconcile(" + acquirer + ", " + count + ", " + total + ")",
                        subject.reconcile(acquirer, count, total));
                }
            }
        }
    }

    private void payOn() {
        add("authorise at once", subject.authorise(3, 99, NUMBERS[0], 1, false));
        add("tick(10)", subject.tick(10));
        for (int i = 0; i < NUMBERS.length; i++) {
            add("authorise " + NUMBERS[i], subject.authorise(3, 100 + i, NUMBERS[i], 50, true));
            add("present " + NUMBERS[i], subject.present(3, 100 + i, 50));
        }
        for (int trace = 1; trace <= 12; trace++) {
            String key = "(1, " + trace + ")";
            add("authorise " + key, subject.authorise(1, trace, NUMBERS[0], 100, false));
            add("present " + key, subject.present(1, trace, 100));
            add("chargeback " + key, subject.chargeback(1, trace));
            add("represent " + key, subject.represent(1, trace));
        }
        add("cutoff()", subject.cutoff());
        for (int party = 0; party <= 8; party++) {
            add("settled(" + party + ") in the end", subject.settled(party));
        }
    }
}
