import java.util.Random;
import java.util.function.Supplier;

/** Runs of 500 calls, made from fixed seeds, answered by EarlybirdDesk as by Model. */
public final class ModelTest {
    private static final int RUNS = 3000;
    private static final int CALLS = 500;
    private static final int[] ODD = {
        -1, 0, 1, 4, 8, 12, 30, 360, 361, 400, 401, 5000, 5001, 1000000, 1000001,
        100000000, 100000001, Integer.MAX_VALUE, Integer.MIN_VALUE
    };

    private final Check check;
    private final Random random;
    private final EarlybirdDesk desk = new EarlybirdDesk();
    private final Model model = new Model();
    /** Some runs keep to few buyers and suppliers, so that budgets, limits and claims meet. */
    private final int buyers;
    private final int suppliers;
    private final int greatestAmount;
    private final int seed;
    private int bills = 0;

    private ModelTest(Check check, int seed) {
        this.check = check;
        this.seed = seed;
        random = new Random(seed);
        buyers = 1 + random.nextInt(4);
        suppliers = 1 + random.nextInt(8);
        greatestAmount = new int[] {10, 2000, 1000000}[random.nextInt(3)];
    }

    public static void main(String[] args) {
        Check check = new Check();
        for (int seed = 0; seed < RUNS; seed++) {
            ModelTest run = new ModelTest(check, seed);
            for (int call = 0; call < CALLS; call++) {
                run.step(call);
            }
        }
        check.end();
    }

    private void step(int call) {
        String at = "run " + seed + ", call " + call + ": ";
        switch (random.nextInt(24)) {
            case 0 -> money(at);
            case 1, 2, 3 -> enter(at);
            case 4, 5, 6 -> approve(at);
            case 7 -> dispute(at);
            case 8, 9 -> note(at);
            case 10, 11, 12, 13 -> offer(at);
            case 14 -> takeBack(at);
            case 15 -> days(at);
            case 16 -> clear(at);
            case 17, 18 -> look(at);
            case 19 -> plan(at);
            case 20 -> most(at);
            default -> ask(at);
        }
    }

    private void money(String at) {
        int buyer = buyer();
        int supplier = supplier();
        int sum = odd(random.nextInt(greatestAmount * 4));
        if (random.nextBoolean()) {
            same(at + "setBudget " + buyer + " " + sum,
                    () -> desk.setBudget(buyer, sum), () -> model.setBudget(buyer, sum));
        } else {
            same(at + "setLimit " + buyer + " " + supplier + " " + sum,
                    () -> desk.setLimit(buyer, supplier, sum),
                    () -> model.setLimit(buyer, supplier, sum));
        }
    }

    private void enter(String at) {
        int buyer = buyer();
        int supplier = supplier();
        int amount = odd(1 + random.nextInt(greatestAmount));
        int days = odd(1 + random.nextInt(random.nextBoolean() ? 20 : 360));
        // Few bills at first, so that a run has not only bills of its first days.
        if (bills < 30 && random.nextInt(30) < bills) {
            return;
        }
        same(at + "bill " + buyer + " " + supplier + " " + amount + " " + days,
                () -> desk.bill(buyer, supplier, amount, days),
                () -> model.bill(buyer, supplier, amount, days));
        bills = countBills();
    }

    private int countBills() {
        int count = bills;
        try {
            model.state(count);
            return count + 1;
        } catch (IndexOutOfBoundsException e) {
            return count;
        }
    }

    private void approve(String at) {
        int bill = bill();
        same(at + "approve " + bill, () -> desk.approve(bill), () -> model.approve(bill));
    }

    private void dispute(String at) {
        int bill = bill();
        same(at + "dispute " + bill, () -> {
            desk.dispute(bill);
            return 0;
        }, () -> {
            model.dispute(bill);
            return 0;
        });
    }

    private void note(String at) {
        int bill = bill();
        int most = bill >= 0 && bill < bills ? model.amount(bill) : 1;
        int part = 1 + random.nextInt(most / (1 + random.nextInt(4)) + 1);
        int amount = odd(random.nextInt(8) == 0 ? most : part);
        same(at + "note " + bill + " " + amount,
                () -> desk.note(bill, amount), () -> model.note(bill, amount));
    }

    private void offer(String at) {
        int bill = bill();
        int rate = odd(random.nextInt(4) == 0 ? random.nextInt(4) * 1000 : random.nextInt(5001));
        same(at + "offer " + bill + " " + rate,
                () -> desk.offer(bill, rate), () -> model.offer(bill, rate));
    }

    private void takeBack(String at) {
        int bill = bill();
        same(at + "takeBack " + bill, () -> desk.takeBack(bill), () -> model.takeBack(bill));
    }

    private void days(String at) {
        int days = odd(1 + random.nextInt(random.nextInt(20) == 0 ? 400 : 4));
        same(at + "pass " + days, () -> desk.pass(days), () -> model.pass(days));
    }

    private void clear(String at) {
        int buyer = buyer();
        same(at + "clear " + buyer, () -> desk.clear(buyer), () -> model.clear(buyer));
    }

    private void plan(String at) {
        int buyer = buyer();
        same(at + "plan " + buyer, () -> desk.plan(buyer), () -> model.plan(buyer));
    }

    private void most(String at) {
        int buyer = buyer();
        same(at + "most " + buyer, () -> desk.most(buyer), () -> model.most(buyer));
    }

    private void look(String at) {
        int bill = bill();
        switch (random.nextInt(4)) {
            case 0 -> same(at + "state " + bill, () -> desk.state(bill), () -> model.state(bill));
            case 1 -> same(at + "amount " + bill, () -> desk.amount(bill), () -> model.amount(bill));
            case 2 -> same(at + "paid " + bill, () -> desk.paid(bill), () -> model.paid(bill));
            default -> same(at + "heldBack " + bill,
                    () -> desk.heldBack(bill), () -> model.heldBack(bill));
        }
    }

    private void ask(String at) {
        int buyer = buyer();
        int supplier = supplier();
        switch (random.nextInt(4)) {
            case 0 -> same(at + "left " + buyer + " " + supplier,
                    () -> desk.left(buyer, supplier), () -> model.left(buyer, supplier));
            case 1 -> same(at + "claim " + buyer + " " + supplier,
                    () -> desk.claim(buyer, supplier), () -> model.claim(buyer, supplier));
            case 2 -> same(at + "averageDiscount " + buyer,
                    () -> desk.averageDiscount(buyer), () -> model.averageDiscount(buyer));
            default -> same(at + "today", desk::today, model::today);
        }
    }

    private int buyer() {
        return odd(random.nextInt(buyers));
    }

    private int supplier() {
        return odd(random.nextInt(suppliers));
    }

    private int bill() {
        return bills == 0 ? odd(0) : odd(random.nextInt(bills));
    }

    private int odd(int usual) {
        return random.nextInt(60) == 0 ? ODD[random.nextInt(ODD.length)] : usual;
    }

    private void same(String what, Supplier<Object> got, Supplier<Object> due) {
        check.is(what, answer(got), answer(due));
    }

    private static Object answer(Supplier<Object> call) {
        try {
            return call.get();
        } catch (RuntimeException e) {
            return Check.kindOf(e);
        }
    }
}
