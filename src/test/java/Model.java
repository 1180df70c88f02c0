import java.util.ArrayList;
import java.util.LinkedHashMap;
import java.util.List;
import java.util.Map;

/**
 * The document once more, written to be compared and not to be quick: balances are kept as the document
 * tells them, and a crash puts back a whole copy of what was there before.
 */
final class Model {
    private static final class Key {
        int state, amount, clock, approved, number, asked, answer, issuer, rate, presented, fee;
        boolean partial;

        Key copy() {
            Key k = new Key();
            k.state = state;
            k.amount = amount;
            k.clock = clock;
            k.approved = approved;
            k.number = number;
            k.asked = asked;
            k.answer = answer;
            k.issuer = issuer;
            k.rate = rate;
            k.presented = presented;
            k.fee = fee;
            k.partial = partial;
            return k;
        }
    }

    private static final class Data {
        Map<String, int[]> routes = new LinkedHashMap<>();
        Map<Integer, int[]> cards = new LinkedHashMap<>();
        Map<String, Key> keys = new LinkedHashMap<>();
        long[] positions = new long[9];
        long[] settled = new long[9];
        List<int[]> items = new ArrayList<>();

        Data copy() {
            Data d = new Data();
            routes.forEach((prefix, route) -> d.routes.put(prefix, route.clone()));
            cards.forEach((number, card) -> d.cards.put(number, card.clone()));
            keys.forEach((name, key) -> d.keys.put(name, key.copy()));
            d.positions = positions.clone();
            d.settled = settled.clone();
            d.items.addAll(items);
            return d;
        }
    }

    private int clock = 0;
    private Data now = new Data();
    private List<Data> before = new ArrayList<>();

    private void change() {
        if (before.size() == 16) {
            before.clear();
        }
        before.add(now.copy());
    }

    private static boolean sound(int number) {
        String digits = Integer.toString(number);
        if (number < 0 || digits.length() != 8) {
            return false;
        }
        int sum = 0;
        for (int i = 0; i < 8; i++) {
            int d = digits.charAt(i) - '0';
            sum += i % 2 == 1 ? d : 2 * d > 9 ? 2 * d - 9 : 2 * d;
        }
        return sum % 10 == 0;
    }

    private static boolean wrong(int acquirer, int trace) {
        return acquirer < 0 || acquirer > 3 || trace < 1 || trace > 9999;
    }

    private Key key(int acquirer, int trace) {
        return now.keys.get(acquirer + "/" + trace);
    }

    private int stateOf(Key k) {
        if (k == null) {
            return 0;
        }
        if (k.state == 2 && clock >= k.clock + 50) {
            return 3;
        }
        return k.state == 7 && clock > k.clock + 30 ? 9 : k.state;
    }

    private int availableOf(int number) {
        int[] card = now.cards.get(number);
        int sum = card[0] - card[1];
        for (Key k : now.keys.values()) {
            int state = stateOf(k);
            if (k.number == number && (state == 2 || state == 7)) {
                sum -= k.amount;
            }
        }
        return sum;
    }

    boolean route(int prefix, int issuer, int rate) {
        if (prefix < 1 || prefix > 9999 || issuer < 0 || issuer > 3 || rate < 0 || rate > 2000) {
            return false;
        }
        if (!now.routes.containsKey("" + prefix) && now.routes.size() == 6) {
            return false;
        }
        change();
        now.routes.put("" + prefix, new int[] {issuer, rate});
        return true;
    }

    int card(int number, int balance, int floor) {
        if (!sound(number) || Math.abs((long) balance) > 1000000 || Math.abs((long) floor) > 1000000 || balance < floor) {
            return -1;
        }
        if (now.cards.containsKey(number)) {
            return -2;
        }
        if (now.cards.size() == 8) {
            return -3;
        }
        change();
        now.cards.put(number, new int[] {balance, floor});
        return now.cards.size();
    }

    int authorise(int acquirer, int trace, int number, int amount, boolean partial) {
        if (wrong(acquirer, trace) || !sound(number) || amount < 1 || amount > 100000) {
            return -1;
        }
        Key old = key(acquirer, trace);
        if (old != null) {
            if (old.state == 5) {
                return -8;
            }
            return old.number == number && old.asked == amount && old.partial == partial ? old.answer : -2;
        }
        if (now.keys.size() == 40) {
            return -3;
        }
        Key k = new Key();
        k.number = number;
        k.asked = amount;
        k.partial = partial;
        String best = "";
        for (String prefix : now.routes.keySet()) {
            if (("" + number).startsWith(prefix) && prefix.length() > best.length()) {
                best = prefix;
            }
        }
        long lately = now.keys.values().stream()
            .filter(o -> o.number == number && o.answer >= 1 && o.approved > clock - 10).count();
        if (!now.cards.containsKey(number)) {
            k.answer = -4;
        } else if (best.isEmpty()) {
            k.answer = -5;
        } else if (lately >= 4) {
            k.answer = -6;
        } else if (availableOf(number) >= amount) {
            k.answer = amount;
        } else if (availableOf(number) >= 1 && partial) {
            k.answer = availableOf(number);
        } else {
            k.answer = -7;
        }
        k.state = k.answer >= 1 ? 2 : 1;
        if (k.state == 2) {
            k.amount = k.answer;
            k.clock = clock;
            k.approved = clock;
            k.issuer = now.routes.get(best)[0];
            k.rate = now.routes.get(best)[1];
        }
        change();
        now.keys.put(acquirer + "/" + trace, k);
        return k.answer;
    }

    int reverse(int acquirer, int trace, int left) {
        if (wrong(acquirer, trace) || left < 0 || left > 100000) {
            return -1;
        }
        Key k = key(acquirer, trace);
        int state = stateOf(k);
        if (state == 0) {
            if (now.keys.size() == 40) {
                return -3;
            }
            change();
            Key stopped = new Key();
            stopped.state = 5;
            now.keys.put(acquirer + "/" + trace, stopped);
            return 0;
        }
        if (state == 1 || state == 4 || state == 5) {
            return 0;
        }
        if (state > 5) {
            return -9;
        }
        if (k.amount <= left) {
            return 0;
        }
        change();
        int less = k.amount - left;
        k.amount = left;
        k.state = left == 0 ? 4 : 2;
        return less;
    }

    int present(int acquirer, int trace, int amount) {
        if (wrong(acquirer, trace) || amount < 1 || amount > 100000) {
            return -1;
        }
        Key k = key(acquirer, trace);
        int state = stateOf(k);
        if (state >= 6) {
            return k.presented == amount ? k.fee : -2;
        }
        if (state != 2 && state != 3) {
            return -11;
        }
        if (amount > k.amount) {
            return -10;
        }
        if (state == 3 && availableOf(k.number) < amount) {
            return -7;
        }
        change();
        int fee = (int) Math.ceil((double) amount * k.rate / 10000);
        int share = (int) Math.floor((double) amount * k.rate * 3 / 40000);
        k.state = 6;
        k.clock = clock;
        k.amount = amount;
        k.presented = amount;
        k.fee = fee;
        now.cards.get(k.number)[0] -= amount;
        now.positions[acquirer] += amount - fee;
        now.positions[4 + k.issuer] += share - amount;
        now.positions[8] += fee - share;
        now.items.add(new int[] {acquirer, amount});
        return fee;
    }

    int chargeback(int acquirer, int trace) {
        if (wrong(acquirer, trace)) {
            return -1;
        }
        Key k = key(acquirer, trace);
        int state = stateOf(k);
        if (state != 6) {
            return state < 6 ? -11 : 0;
        }
        if (clock > k.clock + 30) {
            return -9;
        }
        change();
        k.state = 7;
        k.clock = clock;
        now.cards.get(k.number)[0] += k.amount;
        now.positions[4 + k.issuer] += k.amount;
        now.positions[acquirer] -= k.amount;
        now.items.add(new int[] {-1, 0});
        return k.amount;
    }

    int represent(int acquirer, int trace) {
        if (wrong(acquirer, trace)) {
            return -1;
        }
        Key k = key(acquirer, trace);
        int state = stateOf(k);
        if (state != 7) {
            return state == 8 ? 0 : state == 9 ? -9 : -11;
        }
        change();
        k.state = 8;
        now.cards.get(k.number)[0] -= k.amount;
        now.positions[4 + k.issuer] -= k.amount;
        now.positions[acquirer] += k.amount;
        now.items.add(new int[] {-1, 0});
        return k.amount;
    }

    int presentments(int acquirer) {
        return (int) now.items.stream().filter(i -> i[0] == acquirer).count();
    }

    long presented(int acquirer) {
        return now.items.stream().filter(i -> i[0] == acquirer).mapToLong(i -> i[1]).sum();
    }

    int cutoff() {
        int count = now.items.size();
        if (count > 0) {
            change();
            for (int p = 0; p < 9; p++) {
                now.settled[p] += now.positions[p];
                now.positions[p] = 0;
            }
            now.items.clear();
        }
        return count;
    }

    int tick(int n) {
        clock += n >= 1 && n <= 100 ? n : 0;
        return clock;
    }

    int flush() {
        int count = before.size();
        before.clear();
        return count;
    }

    boolean crash(int n) {
        if (n < 0 || n > before.size()) {
            return false;
        }
        if (n > 0) {
            now = before.get(before.size() - n);
        }
        before.clear();
        return true;
    }

    int unwritten() {
        return before.size();
    }

    int state(int acquirer, int trace) {
        return wrong(acquirer, trace) ? -1 : stateOf(key(acquirer, trace));
    }

    int held(int acquirer, int trace) {
        int state = state(acquirer, trace);
        return state == -1 ? -1 : state == 2 || state == 7 ? key(acquirer, trace).amount : 0;
    }

    int available(int number) {
        return now.cards.containsKey(number) ? availableOf(number) : -4;
    }

    long position(int party) {
        return party < 0 || party > 8 ? 0 : now.positions[party];
    }

    long settled(int party) {
        return party < 0 || party > 8 ? 0 : now.settled[party];
    }
}
