import java.util.ArrayList;
import java.util.Arrays;

/**
 * An early payment market: suppliers offer discounts on approved bills for being paid ahead of the
 * due day, and each buyer's offers are cleared within a budget and a limit for each supplier.
 */
public final class EarlybirdDesk {
    private static final int BUYERS = 4;
    private static final int SUPPLIERS = 8;
    private static final int MOST_BILLS = 30;
    private static final int MOST_CHOICES = 12;

    private static final int HIGHEST_SUM = 100000000;
    private static final int HIGHEST_AMOUNT = 1000000;
    private static final int HIGHEST_RATE = 5000;
    private static final int LONGEST_TERM = 360;
    private static final int LONGEST_PASS = 400;
    private static final int FIRST_LIMIT = 10000000;

    /** Rates are in hundredths of a percent (10000 to the whole) for a year of 360 days. */
    private static final int RATE_TIMES_YEAR = 3600000;

    private static final int OPEN = 0;
    private static final int APPROVED = 1;
    private static final int DISPUTED = 2;
    private static final int PAID_EARLY = 3;
    private static final int PAID = 4;

    /** Stands for a rate where there is no offer, as 0 is a rate. */
    private static final int NO_OFFER = -1;

    private final int[] budgets = new int[BUYERS];
    /** One element for each pair of a buyer and a supplier, see pairOf. */
    private final int[] limits = new int[BUYERS * SUPPLIERS];
    private final int[] claims = new int[BUYERS * SUPPLIERS];
    private final ArrayList<Bill> bills = new ArrayList<>();
    private int today = 0;

    /** Work space of one call, kept so that calls make no new arrays: offers in clearing order. */
    private final ArrayList<Bill> offers = new ArrayList<>();
    /** Work space of one call: what is left of the limit of each supplier. */
    private final int[] room = new int[SUPPLIERS];

    public EarlybirdDesk() {
        Arrays.fill(limits, FIRST_LIMIT);
    }

    // ---- budgets and limits

    public int setBudget(int buyer, int budget)
            throws IndexOutOfBoundsException, IllegalArgumentException {
        checkBuyer(buyer);
        checkRange(budget, 0, HIGHEST_SUM);
        int before = budgets[buyer];
        budgets[buyer] = budget;
        return before;
    }

    public int setLimit(int buyer, int supplier, int limit)
            throws IndexOutOfBoundsException, IllegalArgumentException {
        int pair = pairOf(buyer, supplier);
        checkRange(limit, 0, HIGHEST_SUM);
        int before = limits[pair];
        limits[pair] = limit;
        return before;
    }

    // ---- bills

    public int bill(int buyer, int supplier, int amount, int days)
            throws IndexOutOfBoundsException, IllegalArgumentException, IllegalStateException {
        checkBuyer(buyer);
        checkSupplier(supplier);
        checkRange(amount, 1, HIGHEST_AMOUNT);
        checkRange(days, 1, LONGEST_TERM);
        int number = bills.size();
        checkPossible(number < MOST_BILLS);
        bills.add(new Bill(number, buyer, supplier, amount, today + days));
        return number;
    }

    public boolean approve(int bill) throws IndexOutOfBoundsException, IllegalStateException {
        Bill found = billAt(bill);
        checkPossible(found.state == OPEN || found.state == DISPUTED);
        boolean isDue = found.due <= today;
        if (isDue) {
            payWhenDue(found);
        } else {
            found.state = APPROVED;
        }
        return isDue;
    }

    public void dispute(int bill) throws IndexOutOfBoundsException, IllegalStateException {
        Bill found = billAt(bill);
        checkPossible(found.state == OPEN || found.state == APPROVED);
        found.state = DISPUTED;
        found.rate = NO_OFFER;
    }

    public int note(int bill, int amount)
            throws IndexOutOfBoundsException, IllegalArgumentException {
        Bill found = billAt(bill);
        checkRange(amount, 1, found.amount - found.noted);
        if (found.isPaid()) {
            return noteOnPaid(found, amount);
        }
        found.amount -= amount;
        return found.amount;
    }

    public int state(int bill) throws IndexOutOfBoundsException {
        return billAt(bill).state;
    }

    public int amount(int bill) throws IndexOutOfBoundsException {
        return billAt(bill).amount;
    }

    public int paid(int bill) throws IndexOutOfBoundsException {
        return billAt(bill).paid;
    }

    public int heldBack(int bill) throws IndexOutOfBoundsException {
        return billAt(bill).heldBack;
    }

    // ---- offers and clearing

    public int offer(int bill, int rate)
            throws IndexOutOfBoundsException, IllegalArgumentException, IllegalStateException {
        Bill found = billAt(bill);
        checkRange(rate, 0, HIGHEST_RATE);
        checkPossible(found.state == APPROVED && found.due > today);
        found.rate = rate;
        return found.priceOn(today);
    }

    public int takeBack(int bill) throws IndexOutOfBoundsException, IllegalStateException {
        Bill found = billAt(bill);
        checkPossible(found.rate != NO_OFFER && !found.isPaid());
        int rate = found.rate;
        found.rate = NO_OFFER;
        return rate;
    }

    public int plan(int buyer) throws IndexOutOfBoundsException {
        checkBuyer(buyer);
        gatherOffers(buyer);
        return acceptedOf(buyer);
    }

    public int clear(int buyer) throws IndexOutOfBoundsException {
        checkBuyer(buyer);
        gatherOffers(buyer);
        int accepted = acceptedOf(buyer);
        int discounts = 0;
        for (int i = 0; i < offers.size(); i++) {
            Bill each = offers.get(i);
            if ((accepted & 1 << each.number) != 0) {
                discounts += each.discountOn(today);
                payEarly(each);
            }
        }
        return discounts;
    }

    public int most(int buyer) throws IndexOutOfBoundsException, IllegalStateException {
        checkBuyer(buyer);
        gatherOffers(buyer);
        checkPossible(offers.size() <= MOST_CHOICES);
        measureRoom(buyer);
        int together = 0;
        for (int i = 0; i < offers.size(); i++) {
            together += offers.get(i).discountOn(today);
        }
        return bestFrom(offers, 0, today, budgets[buyer], room, together);
    }

    // ---- money and days

    public int left(int buyer, int supplier) throws IndexOutOfBoundsException {
        int pair = pairOf(buyer, supplier);
        return limits[pair] - pricesThatCount(buyer, supplier);
    }

    public int claim(int buyer, int supplier) throws IndexOutOfBoundsException {
        return claims[pairOf(buyer, supplier)];
    }

    public float averageDiscount(int buyer)
            throws IndexOutOfBoundsException, IllegalStateException {
        checkBuyer(buyer);
        int discounts = 0;
        int amounts = 0;
        for (int i = 0; i < bills.size(); i++) {
            Bill each = bills.get(i);
            if (each.buyer == buyer && each.state == PAID_EARLY) {
                discounts += each.amount - each.paid;
                amounts += each.amount;
            }
        }
        checkPossible(amounts != 0);
        return (float) discounts / (float) amounts;
    }

    public int pass(int days) throws IllegalArgumentException {
        checkRange(days, 1, LONGEST_PASS);
        int count = 0;
        for (int day = 0; day < days; day++) {
            today++;
            count += payBillsDueToday();
        }
        return count;
    }

    public int today() {
        return today;
    }

    // ---- what the arguments must be

    private static void checkBuyer(int buyer) {
        if (buyer < 0 || buyer >= BUYERS) {
            throw new IndexOutOfBoundsException("no such buyer");
        }
    }

    private static void checkSupplier(int supplier) {
        if (supplier < 0 || supplier >= SUPPLIERS) {
            throw new IndexOutOfBoundsException("no such supplier");
        }
    }

    private static void checkRange(int value, int least, int greatest) {
        if (value < least || value > greatest) {
            throw new IllegalArgumentException("argument out of range");
        }
    }

    private static void checkPossible(boolean possible) {
        if (!possible) {
            throw new IllegalStateException("not possible now");
        }
    }

    /** The place of a buyer and a supplier in limits and claims, if both exist. */
    private static int pairOf(int buyer, int supplier) {
        checkBuyer(buyer);
        checkSupplier(supplier);
        return buyer * SUPPLIERS + supplier;
    }

    private Bill billAt(int number) {
        if (number < 0 || number >= bills.size()) {
            throw new IndexOutOfBoundsException("no such bill");
        }
        return bills.get(number);
    }

    // ---- clearing

    private void gatherOffers(int buyer) {
        offers.clear();
        for (int i = 0; i < bills.size(); i++) {
            Bill each = bills.get(i);
            if (each.buyer == buyer && each.canBeCleared(today)) {
                offers.add(placeOfRate(each.rate), each);
            }
        }
    }

    /** Bills are gathered by rising numbers, so one goes behind all of the same rate. */
    private int placeOfRate(int rate) {
        int place = 0;
        while (place < offers.size() && offers.get(place).rate >= rate) {
            place++;
        }
        return place;
    }

    private void measureRoom(int buyer) {
        for (int supplier = 0; supplier < SUPPLIERS; supplier++) {
            room[supplier] = left(buyer, supplier);
        }
    }

    /** Which of the gathered offers would be accepted, as a set: bit b for bill b. */
    private int acceptedOf(int buyer) {
        measureRoom(buyer);
        int budget = budgets[buyer];
        int accepted = 0;
        for (int i = 0; i < offers.size(); i++) {
            Bill each = offers.get(i);
            int price = each.priceOn(today);
            if (price <= budget && price <= room[each.supplier]) {
                budget -= price;
                room[each.supplier] -= price;
                accepted |= 1 << each.number;
            }
        }
        return accepted;
    }

    /**
     * The greatest sum of discounts that the offers from a place on bring today within a budget and
     * the room; together is what they would bring if all were chosen.
     */
    private static int bestFrom(
            ArrayList<Bill> offers, int place, int today, int budget, int[] room, int together) {
        if (place >= offers.size() || place >= MOST_CHOICES) {
            return 0;
        }
        Bill each = offers.get(place);
        int discount = each.discountOn(today);
        int price = each.priceOn(today);
        int behind = together - discount;
        int best = 0;
        if (price <= budget && price <= room[each.supplier]) {
            room[each.supplier] -= price;
            best = discount + bestFrom(offers, place + 1, today, budget - price, room, behind);
            room[each.supplier] += price;
        }
        // Without this offer there is no more to win than what all those behind it bring.
        if (best < behind) {
            best = Math.max(best, bestFrom(offers, place + 1, today, budget, room, behind));
        }
        return best;
    }

    private int pricesThatCount(int buyer, int supplier) {
        int sum = 0;
        for (int i = 0; i < bills.size(); i++) {
            Bill each = bills.get(i);
            if (each.buyer == buyer && each.supplier == supplier
                    && each.state == PAID_EARLY && each.due > today) {
                sum += each.paid;
            }
        }
        return sum;
    }

    // ---- payments and claims

    private int payBillsDueToday() {
        int count = 0;
        for (int i = 0; i < bills.size(); i++) {
            Bill each = bills.get(i);
            if (each.state == APPROVED && each.due == today) {
                payWhenDue(each);
                count++;
            }
        }
        return count;
    }

    private void payWhenDue(Bill due) {
        due.state = PAID;
        pay(due, due.amount);
    }

    private void payEarly(Bill offered) {
        int price = offered.priceOn(today);
        offered.state = PAID_EARLY;
        budgets[offered.buyer] -= price;
        pay(offered, price);
    }

    private void pay(Bill paid, int sum) {
        int pair = pairOf(paid.buyer, paid.supplier);
        int held = Math.min(sum, claims[pair]);
        paid.paid = sum;
        paid.heldBack = held;
        claims[pair] -= held;
    }

    private int noteOnPaid(Bill paid, int noted) {
        // A note of at least 1 is within the amount, so this turns away none, but it keeps the
        // division from ever meeting 0.
        checkRange(paid.amount, 1, HIGHEST_AMOUNT);
        int added = (int) ((long) noted * paid.paid / paid.amount);
        paid.noted += noted;
        claims[pairOf(paid.buyer, paid.supplier)] += added;
        return added;
    }

    private static final class Bill {
        final int number;
        final int buyer;
        final int supplier;
        final int due;
        /** Stays as it is once the bill is paid. */
        int amount;
        int state = OPEN;
        int rate = NO_OFFER;
        /** What was paid, with what was held back of it. */
        int paid = 0;
        int heldBack = 0;
        /** All notes since the bill was paid, together. */
        int noted = 0;

        Bill(int number, int buyer, int supplier, int amount, int due) {
            this.number = number;
            this.buyer = buyer;
            this.supplier = supplier;
            this.amount = amount;
            this.due = due;
        }

        boolean isPaid() {
            return state == PAID_EARLY || state == PAID;
        }

        boolean canBeCleared(int day) {
            return state == APPROVED && due > day && rate != NO_OFFER;
        }

        int discountOn(int day) {
            return (int) ((long) amount * rate * (due - day) / RATE_TIMES_YEAR);
        }

        int priceOn(int day) {
            return amount - discountOn(day);
        }
    }
}
