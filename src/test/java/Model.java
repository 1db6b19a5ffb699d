import java.util.ArrayList;
import java.util.Comparator;
import java.util.HashMap;
import java.util.List;
import java.util.Map;

/** The document a second time, as plain as can be, to compare the answers of EarlybirdDesk with. */
final class Model {
    private static final class Entry {
        int number;
        int buyer;
        int supplier;
        long amount;
        long due;
        String state = "open";
        Integer rate = null;
        long paid = 0;
        long held = 0;
        List<Integer> notesOnPaid = new ArrayList<>();

        boolean isPaid() {
            return state.equals("paid early") || state.equals("paid");
        }

        long discount(long day) {
            return Math.floorDiv(amount * rate * (due - day), 3600000L);
        }

        long price(long day) {
            return amount - discount(day);
        }
    }

    private final List<Entry> entries = new ArrayList<>();
    private final Map<Integer, Long> budgets = new HashMap<>();
    private final Map<List<Integer>, Long> limits = new HashMap<>();
    private final Map<List<Integer>, Long> claims = new HashMap<>();
    private long day = 0;

    int setBudget(int buyer, int budget) {
        mustExist(buyer, 4);
        mustBe(budget, 0, 100000000);
        Long before = budgets.put(buyer, (long) budget);
        return before == null ? 0 : before.intValue();
    }

    int setLimit(int buyer, int supplier, int limit) {
        mustExist(buyer, 4);
        mustExist(supplier, 8);
        mustBe(limit, 0, 100000000);
        Long before = limits.put(List.of(buyer, supplier), (long) limit);
        return before == null ? 10000000 : before.intValue();
    }

    int bill(int buyer, int supplier, int amount, int days) {
        mustExist(buyer, 4);
        mustExist(supplier, 8);
        mustBe(amount, 1, 1000000);
        mustBe(days, 1, 360);
        mustHold(entries.size() < 30);
        Entry entry = new Entry();
        entry.number = entries.size();
        entry.buyer = buyer;
        entry.supplier = supplier;
        entry.amount = amount;
        entry.due = day + days;
        entries.add(entry);
        return entry.number;
    }

    boolean approve(int bill) {
        Entry entry = entry(bill);
        mustHold(entry.state.equals("open") || entry.state.equals("disputed"));
        entry.state = "approved";
        if (entry.due > day) {
            return false;
        }
        pay(entry, "paid", entry.amount);
        return true;
    }

    void dispute(int bill) {
        Entry entry = entry(bill);
        mustHold(entry.state.equals("open") || entry.state.equals("approved"));
        entry.state = "disputed";
        entry.rate = null;
    }

    int note(int bill, int amount) {
        Entry entry = entry(bill);
        if (!entry.isPaid()) {
            mustBe(amount, 1, entry.amount);
            entry.amount -= amount;
            return (int) entry.amount;
        }
        int notes = entry.notesOnPaid.stream().mapToInt(Integer::intValue).sum();
        mustBe(amount, 1, entry.amount - notes);
        entry.notesOnPaid.add(amount);
        long added = amount * entry.paid / entry.amount;
        claims.merge(List.of(entry.buyer, entry.supplier), added, Long::sum);
        return (int) added;
    }

    int state(int bill) {
        return List.of("open", "approved", "disputed", "paid early", "paid")
                .indexOf(entry(bill).state);
    }

    int amount(int bill) {
        return (int) entry(bill).amount;
    }

    int paid(int bill) {
        return (int) entry(bill).paid;
    }

    int heldBack(int bill) {
        return (int) entry(bill).held;
    }

    int offer(int bill, int rate) {
        Entry entry = entry(bill);
        mustBe(rate, 0, 5000);
        mustHold(entry.state.equals("approved") && entry.due > day);
        entry.rate = rate;
        return (int) entry.price(day);
    }

    int takeBack(int bill) {
        Entry entry = entry(bill);
        mustHold(entry.rate != null && !entry.isPaid());
        int rate = entry.rate;
        entry.rate = null;
        return rate;
    }

    int plan(int buyer) {
        mustExist(buyer, 4);
        int set = 0;
        for (Entry entry : accepted(buyer)) {
            set += 1 << entry.number;
        }
        return set;
    }

    int clear(int buyer) {
        mustExist(buyer, 4);
        long sum = 0;
        for (Entry entry : accepted(buyer)) {
            long price = entry.price(day);
            sum += entry.amount - price;
            budgets.merge(buyer, -price, Long::sum);
            pay(entry, "paid early", price);
        }
        return (int) sum;
    }

    int most(int buyer) {
        mustExist(buyer, 4);
        List<Entry> offers = offers(buyer);
        mustHold(offers.size() <= 12);
        long best = 0;
        for (int choice = 0; choice < 1 << offers.size(); choice++) {
            List<Entry> chosen = new ArrayList<>();
            for (int i = 0; i < offers.size(); i++) {
                if ((choice >> i) % 2 == 1) {
                    chosen.add(offers.get(i));
                }
            }
            if (isWithin(buyer, chosen)) {
                best = Math.max(best, chosen.stream().mapToLong(e -> e.discount(day)).sum());
            }
        }
        return (int) best;
    }

    int left(int buyer, int supplier) {
        mustExist(buyer, 4);
        mustExist(supplier, 8);
        return (int) leftOf(buyer, supplier);
    }

    int claim(int buyer, int supplier) {
        mustExist(buyer, 4);
        mustExist(supplier, 8);
        return (int) (long) claims.getOrDefault(List.of(buyer, supplier), 0L);
    }

    float averageDiscount(int buyer) {
        mustExist(buyer, 4);
        List<Entry> early = entries.stream()
                .filter(e -> e.buyer == buyer && e.state.equals("paid early")).toList();
        long amounts = early.stream().mapToLong(e -> e.amount).sum();
        mustHold(amounts != 0);
        return (float) early.stream().mapToLong(e -> e.amount - e.paid).sum() / (float) amounts;
    }

    int pass(int days) {
        mustBe(days, 1, 400);
        int count = 0;
        long end = day + days;
        while (day < end) {
            day++;
            for (Entry entry : entries) {
                if (entry.state.equals("approved") && entry.due == day) {
                    pay(entry, "paid", entry.amount);
                    count++;
                }
            }
        }
        return count;
    }

    int today() {
        return (int) day;
    }

    private List<Entry> offers(int buyer) {
        return entries.stream()
                .filter(e -> e.buyer == buyer && e.state.equals("approved"))
                .filter(e -> e.rate != null && e.due > day)
                .sorted(Comparator.comparingInt((Entry e) -> -e.rate)
                        .thenComparingInt(e -> e.number))
                .toList();
    }

    private List<Entry> accepted(int buyer) {
        List<Entry> accepted = new ArrayList<>();
        for (Entry entry : offers(buyer)) {
            long price = entry.price(day);
            long spent = accepted.stream().mapToLong(e -> e.price(day)).sum();
            long ofSupplier = accepted.stream().filter(e -> e.supplier == entry.supplier)
                    .mapToLong(e -> e.price(day)).sum();
            if (price <= budgets.getOrDefault(buyer, 0L) - spent
                    && price <= leftOf(buyer, entry.supplier) - ofSupplier) {
                accepted.add(entry);
            }
        }
        return accepted;
    }

    private boolean isWithin(int buyer, List<Entry> chosen) {
        long spent = 0;
        for (Entry entry : chosen) {
            spent += entry.price(day);
            long ofSupplier = chosen.stream().filter(e -> e.supplier == entry.supplier)
                    .mapToLong(e -> e.price(day)).sum();
            if (ofSupplier > leftOf(buyer, entry.supplier)) {
                return false;
            }
        }
        return spent <= budgets.getOrDefault(buyer, 0L);
    }

    private long leftOf(int buyer, int supplier) {
        return limits.getOrDefault(List.of(buyer, supplier), 10000000L) - entries.stream()
                .filter(e -> e.buyer == buyer && e.supplier == supplier)
                .filter(e -> e.state.equals("paid early") && e.due > day)
                .mapToLong(e -> e.paid).sum();
    }

    private void pay(Entry entry, String state, long sum) {
        List<Integer> pair = List.of(entry.buyer, entry.supplier);
        long claim = claims.getOrDefault(pair, 0L);
        entry.state = state;
        entry.paid = sum;
        entry.held = Math.min(claim, sum);
        claims.put(pair, claim - entry.held);
    }

    private Entry entry(int bill) {
        mustExist(bill, entries.size());
        return entries.get(bill);
    }

    private static void mustExist(int number, int count) {
        if (number < 0 || number >= count) {
            throw new IndexOutOfBoundsException();
        }
    }

    private static void mustBe(long value, long least, long greatest) {
        if (value < least || value > greatest) {
            throw new IllegalArgumentException();
        }
    }

    private static void mustHold(boolean possible) {
        if (!possible) {
            throw new IllegalStateException();
        }
    }
}
