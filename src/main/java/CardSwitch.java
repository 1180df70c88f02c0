/** A switch between the banks of shops and the banks of cards; ../shared/DOC.md has its promises. */
public final class CardSwitch {
    public static final int BAD = -1;
    public static final int DUPLICATE = -2;
    public static final int FULL = -3;
    public static final int UNKNOWN = -4;
    public static final int UNROUTED = -5;
    public static final int BUSY = -6;
    public static final int SHORT = -7;
    public static final int REVERSED = -8;
    public static final int LATE = -9;
    public static final int OVER = -10;
    public static final int ABSENT = -11;

    private static final int NOT_IN_USE = 0;
    private static final int DECLINED = 1;
    private static final int HELD = 2;
    private static final int LAPSED = 3;
    private static final int RELEASED = 4;
    private static final int STOPPED = 5;
    private static final int CLEARED = 6;
    private static final int CHARGED = 7;
    private static final int REPRESENTED = 8;
    private static final int CLOSED = 9;

    private static final int MAX_ROUTES = 6;
    private static final int MAX_CARDS = 8;
    private static final int MAX_KEYS = 40;
    private static final int MAX_UNWRITTEN = 16;

    private static final int MAX_PREFIX = 9999;
    private static final int MAX_RATE = 2000;
    private static final int MAX_TRACE = 9999;
    private static final int MAX_AMOUNT = 100000;
    private static final int MAX_BALANCE = 1000000;
    private static final int MAX_TICK = 100;
    private static final int MIN_NUMBER = 10000000;
    private static final int MAX_NUMBER = 99999999;
    private static final int NUMBER_DIGITS = 8;

    private static final int BANKS = 4;
    private static final int FIRST_ISSUER = 4;
    private static final int SWITCH = 8;
    private static final int PARTIES = 9;

    private static final int HOLD_TIME = 50;
    private static final int DISPUTE_TIME = 30;
    private static final int BUSY_TIME = 10;
    private static final int BUSY_APPROVALS = 4;

    private int clock;
    private final Route[] routes;
    private int routeCount;
    private final Card[] cards;
    private int cardCount;
    private final Payment[] payments;
    private int paymentCount;
    private final Ledger ledger;
    private final Change[] changes;
    private int unwrittenCount;

    /** All rows are made here and used again, so that no later call makes an object. */
    public CardSwitch() {
        routes = new Route[MAX_ROUTES];
        for (int i = 0; i < MAX_ROUTES; i++) {
            routes[i] = new Route();
        }
        cards = new Card[MAX_CARDS];
        for (int i = 0; i < MAX_CARDS; i++) {
            cards[i] = new Card();
        }
        payments = new Payment[MAX_KEYS];
        for (int i = 0; i < MAX_KEYS; i++) {
            payments[i] = new Payment();
        }
        ledger = new Ledger();
        changes = new Change[MAX_UNWRITTEN];
        for (int i = 0; i < MAX_UNWRITTEN; i++) {
            changes[i] = new Change();
        }
    }

    public boolean route(int prefix, int issuer, int rate) {
        if (!within(prefix, 1, MAX_PREFIX) || !isBank(issuer) || !within(rate, 0, MAX_RATE)) {
            return false;
        }
        Route route = findRoute(prefix);
        if (route == null && routeCount >= MAX_ROUTES) {
            return false;
        }
        startChange(route, null);
        if (route == null) {
            route = routes[routeCount];
            routeCount++;
        }
        route.prefix = prefix;
        route.issuer = issuer;
        route.rate = rate;
        return true;
    }

    public int card(int number, int balance, int floor) {
        if (!isSound(number) || !within(balance, -MAX_BALANCE, MAX_BALANCE)
                || !within(floor, -MAX_BALANCE, MAX_BALANCE) || balance < floor) {
            return BAD;
        }
        if (findCard(number) != null) {
            return DUPLICATE;
        }
        if (cardCount >= MAX_CARDS) {
            return FULL;
        }
        startChange(null, null);
        Card card = cards[cardCount];
        cardCount++;
        card.number = number;
        card.opening = balance;
        card.floor = floor;
        return cardCount;
    }

    public int authorise(int acquirer, int trace, int number, int amount, boolean partial) {
        if (isWrongKey(acquirer, trace) || !isSound(number) || !within(amount, 1, MAX_AMOUNT)) {
            return BAD;
        }
        Payment payment = findPayment(acquirer, trace);
        if (payment != null) {
            return answerAgain(payment, number, amount, partial);
        }
        if (paymentCount >= MAX_KEYS) {
            return FULL;
        }
        Route route = routeOf(number);
        int answer = decide(number, route, amount, partial);
        payment = enterKey(acquirer, trace);
        payment.number = number;
        payment.asked = amount;
        payment.partial = partial;
        payment.answer = answer;
        if (answer >= 1 && route != null) {
            payment.phase = HELD;
            payment.amount = answer;
            payment.approvedAt = clock;
            payment.since = clock;
            payment.issuer = route.issuer;
            payment.rate = route.rate;
        } else {
            payment.phase = DECLINED;
        }
        return answer;
    }

    public int reverse(int acquirer, int trace, int left) {
        if (isWrongKey(acquirer, trace) || !within(left, 0, MAX_AMOUNT)) {
            return BAD;
        }
        Payment payment = findPayment(acquirer, trace);
        if (payment == null) {
            return stop(acquirer, trace);
        }
        switch (stateOf(payment)) {
            case DECLINED:
            case RELEASED:
            case STOPPED:
                return 0;
            case HELD:
            case LAPSED:
                return lessen(payment, left);
            default:
                return LATE;
        }
    }

    public int present(int acquirer, int trace, int amount) {
        if (isWrongKey(acquirer, trace) || !within(amount, 1, MAX_AMOUNT)) {
            return BAD;
        }
        Payment payment = findPayment(acquirer, trace);
        int state = stateOf(payment);
        if (payment != null && state >= CLEARED) {
            return amount == payment.amount ? feeOf(amount, payment.rate) : DUPLICATE;
        }
        if (payment == null || (state != HELD && state != LAPSED)) {
            return ABSENT;
        }
        if (amount > payment.amount) {
            return OVER;
        }
        if (state == LAPSED && availableOn(findCard(payment.number)) < amount) {
            return SHORT;
        }
        return clear(payment, amount);
    }

    public int chargeback(int acquirer, int trace) {
        if (isWrongKey(acquirer, trace)) {
            return BAD;
        }
        Payment payment = findPayment(acquirer, trace);
        int state = stateOf(payment);
        if (payment == null || state < CLEARED) {
            return ABSENT;
        }
        if (state > CLEARED) {
            return 0;
        }
        if (clock - payment.since > DISPUTE_TIME) {
            return LATE;
        }
        startChange(null, payment);
        payment.phase = CHARGED;
        payment.since = clock;
        ledger.giveBack(payment.acquirer, payment.issuer, payment.amount);
        return payment.amount;
    }

    public int represent(int acquirer, int trace) {
        if (isWrongKey(acquirer, trace)) {
            return BAD;
        }
        Payment payment = findPayment(acquirer, trace);
        int state = stateOf(payment);
        if (state == REPRESENTED) {
            return 0;
        }
        if (state == CLOSED) {
            return LATE;
        }
        if (payment == null || state != CHARGED) {
            return ABSENT;
        }
        startChange(null, payment);
        payment.phase = REPRESENTED;
        ledger.takeAgain(payment.acquirer, payment.issuer, payment.amount);
        return payment.amount;
    }

    public boolean reconcile(int acquirer, int count, long total) {
        return isBank(acquirer) && ledger.presentments[acquirer] == count
                && ledger.presented[acquirer] == total;
    }

    public int cutoff() {
        int items = ledger.items;
        if (items > 0) {
            startChange(null, null);
            ledger.settle();
        }
        return items;
    }

    public int tick(int n) {
        if (within(n, 1, MAX_TICK)) {
            clock += n;
        }
        return clock;
    }

    public int flush() {
        int written = unwrittenCount;
        unwrittenCount = 0;
        return written;
    }

    public boolean crash(int n) {
        if (!within(n, 0, unwrittenCount)) {
            return false;
        }
        for (int lost = 0; lost < n; lost++) {
            unwrittenCount--;
            undo(changes[unwrittenCount]);
        }
        unwrittenCount = 0;
        return true;
    }

    public int unwritten() {
        return unwrittenCount;
    }

    public int state(int acquirer, int trace) {
        return isWrongKey(acquirer, trace) ? BAD : stateOf(findPayment(acquirer, trace));
    }

    public int held(int acquirer, int trace) {
        if (isWrongKey(acquirer, trace)) {
            return BAD;
        }
        Payment payment = findPayment(acquirer, trace);
        int state = stateOf(payment);
        return payment != null && (state == HELD || state == CHARGED) ? payment.amount : 0;
    }

    public int available(int number) {
        Card card = findCard(number);
        return card == null ? UNKNOWN : availableOn(card);
    }

    public long position(int party) {
        return within(party, 0, SWITCH) ? ledger.positions[party] : 0;
    }

    public long settled(int party) {
        return within(party, 0, SWITCH) ? ledger.settledSums[party] : 0;
    }

    private static boolean within(int value, int low, int high) {
        return value >= low && value <= high;
    }

    private static boolean isBank(int bank) {
        return within(bank, 0, BANKS - 1);
    }

    private static boolean isWrongKey(int acquirer, int trace) {
        return !isBank(acquirer) || !within(trace, 1, MAX_TRACE);
    }

    private static boolean isSound(int number) {
        if (!within(number, MIN_NUMBER, MAX_NUMBER)) {
            return false;
        }
        int sum = 0;
        int rest = number;
        for (int place = NUMBER_DIGITS; place >= 1; place--) {
            int digit = rest % 10;
            sum += place % 2 == 0 ? digit : doubled(digit);
            rest /= 10;
        }
        return sum % 10 == 0;
    }

    private static int doubled(int digit) {
        int twice = 2 * digit;
        return twice > 9 ? twice - 9 : twice;
    }

    private static int feeOf(int amount, int rate) {
        return (amount * rate + 9999) / 10000;
    }

    private static int shareOf(int amount, int rate) {
        return amount * rate * 3 / 40000;
    }

    private Route findRoute(int prefix) {
        for (int i = 0; i < routeCount; i++) {
            if (routes[i].prefix == prefix) {
                return routes[i];
            }
        }
        return null;
    }

    /** Cuts the number shorter digit by digit, so the first prefix met is the one with the most digits. */
    private Route routeOf(int number) {
        int start = number;
        for (int digits = NUMBER_DIGITS; digits >= 1; digits--) {
            Route route = findRoute(start);
            if (route != null) {
                return route;
            }
            start /= 10;
        }
        return null;
    }

    private Card findCard(int number) {
        for (int i = 0; i < cardCount; i++) {
            if (cards[i].number == number) {
                return cards[i];
            }
        }
        return null;
    }

    private Payment findPayment(int acquirer, int trace) {
        for (int i = 0; i < paymentCount; i++) {
            if (payments[i].acquirer == acquirer && payments[i].trace == trace) {
                return payments[i];
            }
        }
        return null;
    }

    private int stateOf(Payment payment) {
        if (payment == null) {
            return NOT_IN_USE;
        }
        int age = clock - payment.since;
        if (payment.phase == HELD && age >= HOLD_TIME) {
            return LAPSED;
        }
        if (payment.phase == CHARGED && age > DISPUTE_TIME) {
            return CLOSED;
        }
        return payment.phase;
    }

    /**
     * The balance is not kept: it is the opening one less what the keys took. Keys never go but by a
     * crash, so this is always the document's balance, and a crash has no balance to bring back.
     */
    private int availableOn(Card card) {
        if (card == null) {
            return 0;
        }
        int rest = card.opening - card.floor;
        for (int i = 0; i < paymentCount; i++) {
            if (payments[i].number == card.number && bindsAmount(stateOf(payments[i]))) {
                rest -= payments[i].amount;
            }
        }
        return rest;
    }

    private static boolean bindsAmount(int state) {
        return state == HELD || state == CLEARED || state == CHARGED || state == REPRESENTED;
    }

    private int recentApprovals(int number) {
        int count = 0;
        for (int i = 0; i < paymentCount; i++) {
            Payment payment = payments[i];
            if (payment.number == number && payment.answer >= 1 && payment.approvedAt > clock - BUSY_TIME) {
                count++;
            }
        }
        return count;
    }

    private int decide(int number, Route route, int amount, boolean partial) {
        Card card = findCard(number);
        if (card == null) {
            return UNKNOWN;
        }
        if (route == null) {
            return UNROUTED;
        }
        if (recentApprovals(number) >= BUSY_APPROVALS) {
            return BUSY;
        }
        int available = availableOn(card);
        if (available >= amount) {
            return amount;
        }
        return partial && available >= 1 ? available : SHORT;
    }

    private static int answerAgain(Payment payment, int number, int amount, boolean partial) {
        if (payment.phase == STOPPED) {
            return REVERSED;
        }
        boolean same = payment.number == number && payment.asked == amount && payment.partial == partial;
        return same ? payment.answer : DUPLICATE;
    }

    private int stop(int acquirer, int trace) {
        if (paymentCount >= MAX_KEYS) {
            return FULL;
        }
        Payment payment = enterKey(acquirer, trace);
        payment.phase = STOPPED;
        return 0;
    }

    private int lessen(Payment payment, int left) {
        int less = payment.amount - left;
        if (less <= 0) {
            return 0;
        }
        startChange(null, payment);
        payment.amount = left;
        if (left == 0) {
            payment.phase = RELEASED;
        }
        return less;
    }

    private int clear(Payment payment, int amount) {
        int fee = feeOf(amount, payment.rate);
        startChange(null, payment);
        payment.phase = CLEARED;
        payment.since = clock;
        payment.amount = amount;
        ledger.take(payment.acquirer, payment.issuer, amount, fee, shareOf(amount, payment.rate));
        return fee;
    }

    /** The callers have seen that there is room. */
    private Payment enterKey(int acquirer, int trace) {
        startChange(null, null);
        Payment payment = payments[paymentCount];
        paymentCount++;
        payment.begin(acquirer, trace);
        return payment;
    }

    /** Keeps what a crash needs: the counts, the ledger, and the row that is about to be altered, if any. */
    private void startChange(Route route, Payment payment) {
        if (unwrittenCount >= MAX_UNWRITTEN) {
            unwrittenCount = 0;
        }
        Change change = changes[unwrittenCount];
        unwrittenCount++;
        change.routeCount = routeCount;
        change.cardCount = cardCount;
        change.paymentCount = paymentCount;
        change.ledger.copyFrom(ledger);
        change.route = route;
        if (route != null) {
            change.issuer = route.issuer;
            change.rate = route.rate;
        }
        change.payment = payment;
        if (payment != null) {
            change.phase = payment.phase;
            change.amount = payment.amount;
            change.since = payment.since;
        }
    }

    private void undo(Change change) {
        routeCount = change.routeCount;
        cardCount = change.cardCount;
        paymentCount = change.paymentCount;
        ledger.copyFrom(change.ledger);
        Route route = change.route;
        if (route != null) {
            route.issuer = change.issuer;
            route.rate = change.rate;
        }
        Payment payment = change.payment;
        if (payment != null) {
            payment.phase = change.phase;
            payment.amount = change.amount;
            payment.since = change.since;
        }
    }

    private static final class Route {
        int prefix;
        int issuer;
        int rate;
    }

    private static final class Card {
        int number;
        int opening;
        int floor;
    }

    /** A key in use. Its phase is its state but for the clock: LAPSED is kept as HELD, CLOSED as CHARGED. */
    private static final class Payment {
        int acquirer;
        int trace;
        int phase;
        int amount;
        /** The clock c of the phase; the approval's clock is kept beside it, for it counts for BUSY ever after. */
        int since;
        int approvedAt;
        int number;
        int asked;
        boolean partial;
        int answer;
        int issuer;
        int rate;

        /** Sets every field, for a crash may have left the row with what a lost key had. */
        void begin(int newAcquirer, int newTrace) {
            acquirer = newAcquirer;
            trace = newTrace;
            phase = NOT_IN_USE;
            amount = 0;
            since = 0;
            approvedAt = 0;
            number = 0;
            asked = 0;
            partial = false;
            answer = 0;
            issuer = 0;
            rate = 0;
        }
    }

    /** What the parties are owed. The presentments of each acquirer are counted apart, for reconcile. */
    private static final class Ledger {
        final long[] positions = new long[PARTIES];
        final long[] settledSums = new long[PARTIES];
        final int[] presentments = new int[BANKS];
        final long[] presented = new long[BANKS];
        int items;

        void take(int acquirer, int issuer, int amount, int fee, int share) {
            positions[acquirer] += amount - fee;
            positions[FIRST_ISSUER + issuer] += share - amount;
            positions[SWITCH] += fee - share;
            presentments[acquirer]++;
            presented[acquirer] += amount;
            items++;
        }

        void giveBack(int acquirer, int issuer, int amount) {
            positions[acquirer] -= amount;
            positions[FIRST_ISSUER + issuer] += amount;
            items++;
        }

        void takeAgain(int acquirer, int issuer, int amount) {
            positions[acquirer] += amount;
            positions[FIRST_ISSUER + issuer] -= amount;
            items++;
        }

        void settle() {
            for (int party = 0; party < PARTIES; party++) {
                settledSums[party] += positions[party];
                positions[party] = 0;
            }
            for (int bank = 0; bank < BANKS; bank++) {
                presentments[bank] = 0;
                presented[bank] = 0;
            }
            items = 0;
        }

        void copyFrom(Ledger other) {
            System.arraycopy(other.positions, 0, positions, 0, PARTIES);
            System.arraycopy(other.settledSums, 0, settledSums, 0, PARTIES);
            System.arraycopy(other.presentments, 0, presentments, 0, BANKS);
            System.arraycopy(other.presented, 0, presented, 0, BANKS);
            items = other.items;
        }
    }

    /**
     * What was there before an unwritten change. It keeps only what can be altered in a row that is there
     * already: of a route the issuer and the rate, of a key the phase, the amount and the clock.
     */
    private static final class Change {
        int routeCount;
        int cardCount;
        int paymentCount;
        final Ledger ledger = new Ledger();
        Route route;
        int issuer;
        int rate;
        Payment payment;
        int phase;
        int amount;
        int since;
    }
}
