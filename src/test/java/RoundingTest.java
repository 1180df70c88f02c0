import java.math.BigDecimal;
import java.math.RoundingMode;

/**
 * "The FEE is a * r / 10000 rounded up to a whole number, the SHARE is a * r * 3 / 40000 rounded down":
 * just below, at and just above whole numbers, and at the ends of both ranges.
 */
public final class RoundingTest {
    private static final int[] RATES = {0, 1, 2, 3, 4, 7, 9, 10, 99, 100, 101, 150, 333, 400, 999, 1000, 1001, 1333, 1999, 2000};
    private static final int[] AMOUNTS = {1, 2, 3, 4, 5, 9, 10, 13, 14, 99, 100, 101, 133, 134, 999, 1000, 9999, 10000, 10001,
        13333, 13334, 19999, 20000, 26666, 26667, 39999, 40000, 40001, 50000, 66667, 99999, 100000};

    private final Script script = new Script();

    public static void main(String[] args) {
        RoundingTest test = new RoundingTest();
        test.eachOfTheTables();
        test.aroundWholeNumbers();
        test.byHand();
        test.script.finish();
    }

    private void eachOfTheTables() {
        for (int rate : RATES) {
            for (int amount : AMOUNTS) {
                present(amount, rate);
            }
        }
        for (int amount = 1; amount <= 40; amount++) {
            present(amount, 1999);
            present(amount, 2000);
        }
    }

    private void aroundWholeNumbers() {
        for (int rate = 1; rate <= 2000; rate += 7) {
            for (int whole = 1; whole <= 3; whole++) {
                around(whole * 10000.0 / rate, rate);
                around(whole * 40000.0 / 3 / rate, rate);
            }
        }
    }

    private void around(double where, int rate) {
        for (int amount = (int) where - 1; amount <= where + 2; amount++) {
            if (amount >= 1 && amount <= 100000) {
                present(amount, rate);
            }
        }
    }

    private void present(int amount, int rate) {
        long fee = rounded(amount, rate, 1, 10000, RoundingMode.CEILING);
        long share = rounded(amount, rate, 3, 40000, RoundingMode.FLOOR);
        CardSwitch subject = new CardSwitch();
        subject.route(1, 2, rate);
        subject.card(10000008, 1000000, -1000000);
        subject.authorise(1, 1, 10000008, amount, false);
        String title = "amount " + amount + " at rate " + rate;
        script.due(title, "the fee", "" + subject.present(1, 1, amount), "" + fee);
        script.due(title, "the fee again", "" + subject.present(1, 1, amount), "" + fee);
        script.due(title, "position(1)", "" + subject.position(1), "" + (amount - fee));
        script.due(title, "position(6)", "" + subject.position(6), "" + (share - amount));
        script.due(title, "position(8)", "" + subject.position(8), "" + (fee - share));
    }

    private static long rounded(int amount, int rate, int times, int parts, RoundingMode mode) {
        BigDecimal product = BigDecimal.valueOf(amount).multiply(BigDecimal.valueOf(rate)).multiply(BigDecimal.valueOf(times));
        return product.divide(BigDecimal.valueOf(parts), 0, mode).longValueExact();
    }

    private void byHand() {
        String start = "card(10000008, 1000000, -1000000) = 1\n route(1, 0, RATE) = true\n";
        String[][] payments = {
            // rate, amount, fee, position of the acquirer, of the issuer, of the switch
            {"0", "1", "0", "1", "-1", "0"},
            {"0", "100000", "0", "100000", "-100000", "0"},
            {"1", "1", "1", "0", "-1", "1"},
            {"1", "9999", "1", "9998", "-9999", "1"},
            {"1", "10000", "1", "9999", "-10000", "1"},
            {"1", "10001", "2", "9999", "-10001", "2"},
            {"1", "13333", "2", "13331", "-13333", "2"},
            {"1", "13334", "2", "13332", "-13333", "1"},
            {"2000", "1", "1", "0", "-1", "1"},
            {"2000", "5", "1", "4", "-5", "1"},
            {"2000", "6", "2", "4", "-6", "2"},
            {"2000", "7", "2", "5", "-6", "1"},
            {"2000", "20", "4", "16", "-17", "1"},
            {"2000", "100000", "20000", "80000", "-85000", "5000"},
        };
        for (String[] p : payments) {
            script.run("amount " + p[1] + " at rate " + p[0], start.replace("RATE", p[0]),
                "authorise(3, 1, 10000008, " + p[1] + ", false) = " + p[1], "present(3, 1, " + p[1] + ") = " + p[2],
                "position(3) = " + p[3], "position(4) = " + p[4], "position(8) = " + p[5]);
        }
    }
}
