/**
 * Sentences of promises 1 to 3 (a new object, budgets and limits) and 17 to 21 (money and days) that
 * name an edge, a test for each.
 */
public final class MoneyEdgesTest {
    private static final Check check = new Check();
    private static final int[] NO_BUYERS = {-1, 4, Integer.MIN_VALUE, Integer.MAX_VALUE};
    private static final int[] NO_SUPPLIERS = {-1, 8, Integer.MIN_VALUE, Integer.MAX_VALUE};

    public static void main(String[] args) {
        newObject();
        budgets();
        limits();
        whatIsLeft();
        claims();
        averages();
        days();
        check.end();
    }

    private static void newObject() {
        check.test(MoneyEdgesTest::promise1WithoutBills);
        check.test(MoneyEdgesTest::promise1Budgets);
        check.test(MoneyEdgesTest::promise1Limits);
    }

    private static void budgets() {
        check.test(MoneyEdgesTest::promise2Buyer);
        check.test(MoneyEdgesTest::promise2Budget);
        check.test(MoneyEdgesTest::promise2ReturnsWhatWasLeft);
        check.test(MoneyEdgesTest::promise2ThrowsIndex);
        check.test(MoneyEdgesTest::promise2ThrowsArgument);
    }

    private static void limits() {
        check.test(MoneyEdgesTest::promise3Buyer);
        check.test(MoneyEdgesTest::promise3Supplier);
        check.test(MoneyEdgesTest::promise3Limit);
        check.test(MoneyEdgesTest::promise3ReturnsLimit);
        check.test(MoneyEdgesTest::promise3ThrowsIndex);
        check.test(MoneyEdgesTest::promise3ThrowsArgument);
    }

    private static void whatIsLeft() {
        check.test(MoneyEdgesTest::promise17Buyer);
        check.test(MoneyEdgesTest::promise17Supplier);
        check.test(MoneyEdgesTest::promise17PricesThatCountNow);
        check.test(MoneyEdgesTest::promise17BelowNothing);
        check.test(MoneyEdgesTest::promise17Throws);
    }

    private static void claims() {
        check.test(MoneyEdgesTest::promise18Buyer);
        check.test(MoneyEdgesTest::promise18Supplier);
        check.test(MoneyEdgesTest::promise18Returns);
        check.test(MoneyEdgesTest::promise18Throws);
    }

    private static void averages() {
        check.test(MoneyEdgesTest::promise19Buyer);
        check.test(MoneyEdgesTest::promise19AllBillsPaidEarly);
        check.test(MoneyEdgesTest::promise19AmountsWhenPaid);
        check.test(MoneyEdgesTest::promise19AsFloats);
        check.test(MoneyEdgesTest::promise19ThrowsIndex);
        check.test(MoneyEdgesTest::promise19ThrowsState);
    }

    private static void days() {
        check.test(MoneyEdgesTest::promise20Days);
        check.test(MoneyEdgesTest::promise20ReturnsHowMany);
        check.test(MoneyEdgesTest::promise20Throws);
        check.test(MoneyEdgesTest::promise21Returns);
    }

    // ---- promise 1

    private static void promise1WithoutBills() {
        check.sentence("Promise 1", "Creates a market without bills");
        check.noSuch("bill 0", EarlybirdDesk::new, d -> d.state(0));
        EarlybirdDesk desk = new EarlybirdDesk();
        for (int buyer = 0; buyer < 4; buyer++) {
            check.is("plan", desk.plan(buyer), 0);
            check.is("clear", desk.clear(buyer), 0);
            check.is("most", desk.most(buyer), 0);
        }
        check.is("nothing is due", desk.pass(400), 0);
        check.is("the first bill", desk.bill(0, 0, 1, 1), 0);
        check.noSuch("bill 0 of another object", EarlybirdDesk::new, d -> d.state(0));
    }

    private static void promise1Budgets() {
        check.sentence("Promise 1", "in which all budgets are 0");
        EarlybirdDesk desk = new EarlybirdDesk();
        for (int buyer = 0; buyer < 4; buyer++) {
            desk.bill(buyer, 0, 1, 1);
            desk.approve(buyer);
            desk.offer(buyer, 0);
            check.is("not a cent for buyer " + buyer, desk.plan(buyer), 0);
            check.is("of buyer " + buyer, desk.setBudget(buyer, 100), 0);
        }
        check.is("of another object", new EarlybirdDesk().setBudget(0, 0), 0);
    }

    private static void promise1Limits() {
        check.sentence("Promise 1", "all limits 10000000");
        EarlybirdDesk desk = new EarlybirdDesk();
        for (int pair = 0; pair < 32; pair++) {
            String of = "of buyer " + pair / 8 + " for supplier " + pair % 8;
            check.is("left " + of, desk.left(pair / 8, pair % 8), 10000000);
            check.is("the limit " + of, desk.setLimit(pair / 8, pair % 8, 5), 10000000);
        }
        EarlybirdDesk great = new EarlybirdDesk();
        for (int bill = 0; bill < 11; bill++) {
            great.bill(0, 0, 1000000, 1);
            great.approve(bill);
            great.offer(bill, 0);
        }
        great.setBudget(0, 100000000);
        check.is("ten of 1000000 are within it", great.plan(0), (1 << 10) - 1);
        check.is("of another object", new EarlybirdDesk().left(0, 0), 10000000);
        check.is("which changes none of this one", desk.left(0, 0), 5);
    }

    // ---- promise 2

    private static void promise2Buyer() {
        check.sentence("Promise 2", "buyer: 0 to 3");
        check.numbers(4, Desks::ofAllKinds, (d, buyer) -> d.setBudget(buyer, 5));
        EarlybirdDesk desk = new EarlybirdDesk();
        for (int buyer = 0; buyer < 4; buyer++) {
            desk.setBudget(buyer, 10 + buyer);
        }
        for (int buyer = 0; buyer < 4; buyer++) {
            check.is("of buyer " + buyer, desk.setBudget(buyer, 0), 10 + buyer);
        }
    }

    private static void promise2Budget() {
        check.sentence("Promise 2", "budget: 0 to 100000000");
        check.range(0, 100000000, Desks::ofAllKinds, (d, budget) -> d.setBudget(0, budget));
        EarlybirdDesk desk = Desks.withOffers(1);
        desk.setBudget(0, 100000000);
        check.is("the greatest", desk.plan(0), 1);
        check.is("is what was left", desk.setBudget(0, 0), 100000000);
        check.is("the least", desk.plan(0), 0);
    }

    private static void promise2ReturnsWhatWasLeft() {
        check.sentence("Promise 2", "Returns what was left of the budget before.");
        EarlybirdDesk desk = Desks.withOffers(2);
        check.is("at first", desk.setBudget(0, 99899), 0);
        desk.clear(0);
        check.is("nothing used", desk.setBudget(0, 99900), 99899);
        desk.clear(0);
        check.is("all used", desk.setBudget(0, 99901), 0);
        desk.clear(0);
        check.is("all used but a cent", desk.setBudget(0, 5), 1);
        desk.pass(36);
        check.is("nothing comes back on the due day", desk.setBudget(0, 0), 5);
        EarlybirdDesk due = Desks.approved(1000, 1);
        due.setBudget(0, 1000);
        due.pass(1);
        check.is("nothing is used on a due day", due.setBudget(0, 0), 1000);
    }

    private static void promise2ThrowsIndex() {
        check.sentence("Promise 2", "Throws IndexOutOfBoundsException if there is no such buyer");
        for (int buyer : NO_BUYERS) {
            check.noSuch("buyer " + buyer, Desks::ofAllKinds, d -> d.setBudget(buyer, 5));
        }
    }

    private static void promise2ThrowsArgument() {
        check.sentence("Promise 2", "Throws IllegalArgumentException if budget is out of range");
        for (int buyer = 0; buyer < 4; buyer++) {
            int each = buyer;
            check.outOfRange("-1", Desks::ofAllKinds, d -> d.setBudget(each, -1));
            check.outOfRange("100000001", Desks::ofAllKinds, d -> d.setBudget(each, 100000001));
        }
    }

    // ---- promise 3

    private static void promise3Buyer() {
        check.sentence("Promise 3", "buyer: 0 to 3");
        check.numbers(4, Desks::ofAllKinds, (d, buyer) -> d.setLimit(buyer, 7, 5));
        EarlybirdDesk desk = new EarlybirdDesk();
        for (int buyer = 0; buyer < 4; buyer++) {
            desk.setLimit(buyer, 7, 10 + buyer);
        }
        for (int buyer = 0; buyer < 4; buyer++) {
            check.is("of buyer " + buyer, desk.setLimit(buyer, 7, 0), 10 + buyer);
        }
    }

    private static void promise3Supplier() {
        check.sentence("Promise 3", "supplier: 0 to 7");
        check.numbers(8, Desks::ofAllKinds, (d, supplier) -> d.setLimit(3, supplier, 5));
        EarlybirdDesk desk = new EarlybirdDesk();
        for (int supplier = 0; supplier < 8; supplier++) {
            desk.setLimit(3, supplier, 10 + supplier);
        }
        for (int supplier = 0; supplier < 8; supplier++) {
            check.is("for supplier " + supplier, desk.setLimit(3, supplier, 0), 10 + supplier);
        }
    }

    private static void promise3Limit() {
        check.sentence("Promise 3", "limit: 0 to 100000000");
        check.range(0, 100000000, Desks::ofAllKinds, (d, limit) -> d.setLimit(0, 0, limit));
        EarlybirdDesk desk = Desks.withOffers(1);
        desk.setBudget(0, 100000000);
        desk.setLimit(0, 0, 0);
        check.is("the least", desk.plan(0), 0);
        desk.setLimit(0, 0, 100000000);
        check.is("the greatest", desk.left(0, 0), 100000000);
    }

    private static void promise3ReturnsLimit() {
        check.sentence("Promise 3", "Returns the limit before.");
        EarlybirdDesk desk = Desks.paidEarly();
        check.is("at first, whatever is left of it", desk.setLimit(0, 0, 950), 10000000);
        check.is("with nothing left", desk.setLimit(0, 0, 0), 950);
        check.is("with less than 0 left", desk.setLimit(0, 0, 100000000), 0);
        check.is("the greatest", desk.setLimit(0, 0, 5), 100000000);
    }

    private static void promise3ThrowsIndex() {
        check.sentence("Promise 3",
                "Throws IndexOutOfBoundsException if there is no such buyer or supplier");
        for (int buyer : NO_BUYERS) {
            check.noSuch("buyer " + buyer, Desks::ofAllKinds, d -> d.setLimit(buyer, 0, 5));
        }
        for (int supplier : NO_SUPPLIERS) {
            check.noSuch("supplier " + supplier, Desks::ofAllKinds, d -> d.setLimit(1, supplier, 5));
        }
    }

    private static void promise3ThrowsArgument() {
        check.sentence("Promise 3", "Throws IllegalArgumentException if limit is out of range");
        for (int pair = 0; pair < 32; pair += 31) {
            int each = pair;
            check.outOfRange("-1", Desks::ofAllKinds, d -> d.setLimit(each / 8, each % 8, -1));
            check.outOfRange("100000001", Desks::ofAllKinds,
                    d -> d.setLimit(each / 8, each % 8, 100000001));
        }
    }

    // ---- promise 17

    private static void promise17Buyer() {
        check.sentence("Promise 17", "buyer: 0 to 3");
        check.numbers(4, Desks::ofAllKinds, (d, buyer) -> d.left(buyer, 7));
        check.is("what buyer 0 paid", Desks.paidEarly().left(0, 0), 10000000 - 950);
        check.is("what buyer 3 did not", Desks.paidEarly().left(3, 0), 10000000);
    }

    private static void promise17Supplier() {
        check.sentence("Promise 17", "supplier: 0 to 7");
        check.numbers(8, Desks::ofAllKinds, (d, supplier) -> d.left(3, supplier));
        check.is("of supplier 0, who was paid", Desks.paidEarly().left(0, 0), 10000000 - 950);
        check.is("of supplier 7, who was not", Desks.paidEarly().left(0, 7), 10000000);
    }

    private static void promise17PricesThatCountNow() {
        check.sentence("Promise 17", "Returns the limit less the prices that count now");
        EarlybirdDesk desk = Desks.paidEarly();
        desk.pass(358);
        check.is("a day ahead of the due day", desk.left(0, 0), 10000000 - 950);
        desk.pass(1);
        check.is("on the due day", desk.left(0, 0), 10000000);
        check.is("no prices", Desks.withOffers(30).left(0, 0), 10000000);
        EarlybirdDesk all = Desks.offered(1000, 360, 0);
        all.setBudget(0, 1000);
        all.setLimit(0, 0, 1000);
        all.clear(0);
        check.is("nothing left", all.left(0, 0), 0);
    }

    private static void promise17BelowNothing() {
        check.sentence("Promise 17", "which may be below 0 if the limit was changed");
        EarlybirdDesk desk = Desks.paidEarly();
        desk.setLimit(0, 0, 951);
        check.is("a cent left", desk.left(0, 0), 1);
        desk.setLimit(0, 0, 949);
        check.is("a cent below 0", desk.left(0, 0), -1);
        desk.pass(359);
        check.is("the prices count no more", desk.left(0, 0), 949);
        EarlybirdDesk great = new EarlybirdDesk();
        great.setLimit(0, 0, 100000000);
        great.setBudget(0, 100000000);
        for (int bill = 0; bill < 30; bill++) {
            great.bill(0, 0, 1000000, 360);
            great.approve(bill);
            great.offer(bill, 0);
        }
        great.clear(0);
        great.setLimit(0, 0, 0);
        check.is("the least", great.left(0, 0), -30000000);
    }

    private static void promise17Throws() {
        check.sentence("Promise 17",
                "Throws IndexOutOfBoundsException if there is no such buyer or supplier");
        for (int buyer : NO_BUYERS) {
            check.noSuch("buyer " + buyer, Desks::ofAllKinds, d -> d.left(buyer, 0));
        }
        for (int supplier : NO_SUPPLIERS) {
            check.noSuch("supplier " + supplier, Desks::ofAllKinds, d -> d.left(1, supplier));
        }
    }

    // ---- promise 18

    private static void promise18Buyer() {
        check.sentence("Promise 18", "buyer: 0 to 3");
        check.numbers(4, Desks::ofAllKinds, (d, buyer) -> d.claim(buyer, 7));
        check.is("of buyer 0", Desks.withClaim(5).claim(0, 0), 5);
        check.is("of buyer 3", Desks.withClaim(5).claim(3, 0), 0);
    }

    private static void promise18Supplier() {
        check.sentence("Promise 18", "supplier: 0 to 7");
        check.numbers(8, Desks::ofAllKinds, (d, supplier) -> d.claim(3, supplier));
        check.is("from supplier 0", Desks.withClaim(5).claim(0, 0), 5);
        check.is("from supplier 7", Desks.withClaim(5).claim(0, 7), 0);
    }

    private static void promise18Returns() {
        check.sentence("Promise 18", "Returns the claim.");
        check.is("at first", new EarlybirdDesk().claim(3, 7), 0);
        check.is("the least", Desks.withClaim(1).claim(0, 0), 1);
        EarlybirdDesk great = new EarlybirdDesk();
        for (int bill = 0; bill < 30; bill++) {
            great.bill(3, 7, 1000000, 1);
            great.approve(bill);
        }
        great.pass(1);
        for (int bill = 0; bill < 30; bill++) {
            great.note(bill, 1000000);
        }
        check.is("the greatest", great.claim(3, 7), 30000000);
        EarlybirdDesk held = Desks.withClaim(500);
        held.bill(0, 0, 499, 1);
        held.bill(0, 0, 499, 1);
        held.pass(1);
        held.approve(1);
        check.is("all but a cent held back", held.claim(0, 0), 1);
        held.approve(2);
        check.is("all held back", held.claim(0, 0), 0);
    }

    private static void promise18Throws() {
        check.sentence("Promise 18",
                "Throws IndexOutOfBoundsException if there is no such buyer or supplier");
        for (int buyer : NO_BUYERS) {
            check.noSuch("buyer " + buyer, Desks::ofAllKinds, d -> d.claim(buyer, 0));
        }
        for (int supplier : NO_SUPPLIERS) {
            check.noSuch("supplier " + supplier, Desks::ofAllKinds, d -> d.claim(1, supplier));
        }
    }

    // ---- promise 19

    /** Each buyer has paid a bill of 1000 early, with a discount of 10, 20, 30, 40. */
    private static EarlybirdDesk eachPaidEarly() {
        EarlybirdDesk desk = new EarlybirdDesk();
        for (int buyer = 0; buyer < 4; buyer++) {
            desk.bill(buyer, 0, 1000, 360);
            desk.approve(buyer);
            desk.offer(buyer, 100 * (buyer + 1));
            desk.setBudget(buyer, 1000);
            desk.clear(buyer);
        }
        return desk;
    }

    private static void promise19Buyer() {
        check.sentence("Promise 19", "buyer: 0 to 3");
        check.numbers(4, MoneyEdgesTest::eachPaidEarly, (d, buyer) -> d.averageDiscount(buyer));
        EarlybirdDesk desk = eachPaidEarly();
        for (int buyer = 0; buyer < 4; buyer++) {
            float due = (float) (10 * (buyer + 1)) / 1000f;
            check.is("of buyer " + buyer, desk.averageDiscount(buyer), due);
        }
    }

    private static void promise19AllBillsPaidEarly() {
        check.sentence("Promise 19", "the discounts of all bills paid early");
        EarlybirdDesk desk = eachPaidEarly();
        desk.bill(0, 0, 500, 1);
        desk.approve(4);
        desk.offer(4, 5000);
        check.is("one that is not paid", desk.averageDiscount(0), 0.01f);
        desk.pass(1);
        check.is("one that is paid when due", desk.averageDiscount(0), 0.01f);
        desk.pass(400);
        check.is("one that was due long ago", desk.averageDiscount(0), 0.01f);
        EarlybirdDesk zero = Desks.offered(1000, 10, 0);
        zero.setBudget(0, 1000);
        zero.clear(0);
        check.is("one without discount", zero.averageDiscount(0), 0f);
        EarlybirdDesk half = Desks.offered(2, 360, 5000);
        half.setBudget(0, 1);
        half.clear(0);
        check.is("the greatest", half.averageDiscount(0), 0.5f);
    }

    private static void promise19AmountsWhenPaid() {
        check.sentence("Promise 19", "divided by the amounts of these when they were paid");
        EarlybirdDesk desk = new EarlybirdDesk();
        desk.bill(0, 0, 2000, 360);
        desk.note(0, 1000);
        desk.approve(0);
        desk.offer(0, 500);
        desk.setBudget(0, 950);
        desk.clear(0);
        check.is("less the notes ahead of the payment", desk.averageDiscount(0), 50f / 1000f);
        desk.note(0, 1000);
        check.is("whatever is noted then", desk.averageDiscount(0), 50f / 1000f);
    }

    private static void promise19AsFloats() {
        check.sentence("Promise 19", "as a float, divided by [..] as a float");
        EarlybirdDesk desk = new EarlybirdDesk();
        int discounts = 0;
        int amounts = 0;
        for (int bill = 0; bill < 30; bill++) {
            int amount = 999990 - bill * bill;
            desk.bill(0, bill % 8, amount, 359);
            desk.approve(bill);
            discounts += amount - desk.offer(bill, 4999);
            amounts += amount;
        }
        desk.setBudget(0, 100000000);
        check.is("the discounts", desk.clear(0), discounts);
        check.is("the quotient", desk.averageDiscount(0), (float) discounts / (float) amounts);
        EarlybirdDesk seventh = Desks.offered(7, 360, 1500);
        seventh.setBudget(0, 6);
        seventh.clear(0);
        check.is("1 of 7", seventh.averageDiscount(0), 1f / 7f);
    }

    private static void promise19ThrowsIndex() {
        check.sentence("Promise 19",
                "Throws IndexOutOfBoundsException if there is no such buyer");
        for (int buyer : NO_BUYERS) {
            check.noSuch("buyer " + buyer, MoneyEdgesTest::eachPaidEarly,
                    d -> d.averageDiscount(buyer));
        }
    }

    private static void promise19ThrowsState() {
        check.sentence("Promise 19",
                "Throws IllegalStateException if these amounts are 0 together");
        check.notNow("no bills", EarlybirdDesk::new, d -> d.averageDiscount(0));
        check.notNow("an offer only", () -> Desks.withOffers(1), d -> d.averageDiscount(0));
        check.notNow("paid when due only", Desks::paidWhenDue, d -> d.averageDiscount(0));
        check.notNow("of another buyer only", Desks::paidEarly, d -> d.averageDiscount(3));
        check.notNow("of amount 0 only", () -> {
            EarlybirdDesk desk = Desks.ofAmountNothing();
            desk.approve(0);
            desk.offer(0, 5000);
            desk.clear(0);
            return desk;
        }, d -> d.averageDiscount(0));
        EarlybirdDesk cent = Desks.offered(1, 10, 0);
        cent.setBudget(0, 1);
        cent.clear(0);
        check.is("a cent together", cent.averageDiscount(0), 0f);
    }

    // ---- promise 20

    private static void promise20Days() {
        check.sentence("Promise 20", "days: 1 to 400");
        check.range(1, 400, Desks::ofAllKinds, (d, days) -> d.pass(days));
        EarlybirdDesk desk = new EarlybirdDesk();
        desk.pass(400);
        check.is("the greatest", desk.today(), 400);
        desk.pass(1);
        check.is("the least", desk.today(), 401);
    }

    private static void promise20ReturnsHowMany() {
        check.sentence("Promise 20", "Returns how many bills are paid by that.");
        check.is("no bills", new EarlybirdDesk().pass(400), 0);
        EarlybirdDesk desk = new EarlybirdDesk();
        for (int bill = 0; bill < 30; bill++) {
            desk.bill(bill % 4, bill % 8, 5, 360 - 12 * bill);
            desk.approve(bill);
        }
        check.is("up to a day ahead of the first", desk.pass(11), 0);
        check.is("the first", desk.pass(1), 1);
        check.is("two days of payments, and those between", desk.pass(24), 2);
        check.is("all others", desk.pass(400), 27);
        EarlybirdDesk most = Desks.withOffers(30);
        check.is("30 on a day, the last one of these", most.pass(36), 30);
        EarlybirdDesk mixed = Desks.ofAllKinds();
        check.is("one of five that is approved", mixed.pass(400), 1);
    }

    private static void promise20Throws() {
        check.sentence("Promise 20", "Throws IllegalArgumentException if days is out of range");
        Check.Setting due = () -> Desks.approved(1000, 1);
        for (int days : new int[] {0, -1, 401, Integer.MIN_VALUE, Integer.MAX_VALUE}) {
            check.outOfRange("days " + days, due, d -> d.pass(days));
        }
    }

    // ---- promise 21

    private static void promise21Returns() {
        check.sentence("Promise 21", "Returns the day.");
        EarlybirdDesk desk = new EarlybirdDesk();
        check.is("at first", desk.today(), 0);
        desk.pass(1);
        check.is("the least", desk.today(), 1);
        check.throwsAny("a refused pass", desk, d -> d.pass(401));
        check.is("takes no time", desk.today(), 1);
        for (int i = 0; i < 500; i++) {
            desk.pass(400);
        }
        check.is("far above a short", desk.today(), 200001);
    }
}
