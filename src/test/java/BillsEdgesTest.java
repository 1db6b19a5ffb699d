/** Sentences of promises 4 to 11 (bills) that name an edge, a test for each. */
public final class BillsEdgesTest {
    private static final Check check = new Check();
    private static final int[] NO_BILLS = {-1, 30, 31, 32, Integer.MIN_VALUE, Integer.MAX_VALUE};

    public static void main(String[] args) {
        bills();
        approvals();
        disputes();
        notes();
        looks();
        check.end();
    }

    private static void bills() {
        check.test(BillsEdgesTest::promise4EntersOpenBill);
        check.test(BillsEdgesTest::promise4Buyer);
        check.test(BillsEdgesTest::promise4Supplier);
        check.test(BillsEdgesTest::promise4Amount);
        check.test(BillsEdgesTest::promise4Days);
        check.test(BillsEdgesTest::promise4ReturnsNumber);
        check.test(BillsEdgesTest::promise4ThrowsIndex);
        check.test(BillsEdgesTest::promise4ThrowsArgument);
        check.test(BillsEdgesTest::promise4ThrowsState);
    }

    private static void approvals() {
        check.test(BillsEdgesTest::promise5OpenOrDisputed);
        check.test(BillsEdgesTest::promise5Bill);
        check.test(BillsEdgesTest::promise5ReturnsTrue);
        check.test(BillsEdgesTest::promise5ThrowsIndex);
        check.test(BillsEdgesTest::promise5ThrowsState);
    }

    private static void disputes() {
        check.test(BillsEdgesTest::promise6OpenOrApproved);
        check.test(BillsEdgesTest::promise6OfferIsGone);
        check.test(BillsEdgesTest::promise6Bill);
        check.test(BillsEdgesTest::promise6ThrowsIndex);
        check.test(BillsEdgesTest::promise6ThrowsState);
    }

    private static void notes() {
        check.test(BillsEdgesTest::promise7Bill);
        check.test(BillsEdgesTest::promise7AmountOfUnpaid);
        check.test(BillsEdgesTest::promise7AmountOfPaid);
        check.test(BillsEdgesTest::promise7AmountSinceItWasPaid);
        check.test(BillsEdgesTest::promise7ReturnsAmount);
        check.test(BillsEdgesTest::promise7ReturnsAddedClaim);
        check.test(BillsEdgesTest::promise7ThrowsIndex);
        check.test(BillsEdgesTest::promise7ThrowsArgument);
    }

    private static void looks() {
        check.test(BillsEdgesTest::promise8Bill);
        check.test(BillsEdgesTest::promise8Returns);
        check.test(BillsEdgesTest::promise8Throws);
        check.test(BillsEdgesTest::promise9Bill);
        check.test(BillsEdgesTest::promise9Returns);
        check.test(BillsEdgesTest::promise9Throws);
        check.test(BillsEdgesTest::promise10Bill);
        check.test(BillsEdgesTest::promise10HeldBack);
        check.test(BillsEdgesTest::promise10Returns);
        check.test(BillsEdgesTest::promise10Throws);
        check.test(BillsEdgesTest::promise11Bill);
        check.test(BillsEdgesTest::promise11Returns);
        check.test(BillsEdgesTest::promise11Throws);
    }

    // ---- promise 4

    private static void promise4EntersOpenBill() {
        check.sentence("Promise 4", "Enters an open bill.");
        EarlybirdDesk desk = Desks.full();
        for (int bill = 0; bill < 30; bill++) {
            check.is("the state of bill " + bill, desk.state(bill), 0);
        }
        EarlybirdDesk late = Desks.openOnItsDueDay();
        check.is("still open on its due day", late.state(0), 0);
    }

    private static void promise4Buyer() {
        check.sentence("Promise 4", "buyer: 0 to 3");
        check.numbers(4, EarlybirdDesk::new, (d, buyer) -> d.bill(buyer, 7, 1, 1));
        EarlybirdDesk desk = new EarlybirdDesk();
        for (int buyer = 0; buyer < 4; buyer++) {
            desk.bill(buyer, 0, 5, 5);
            desk.approve(buyer);
            desk.offer(buyer, 0);
            desk.setBudget(buyer, 5);
        }
        for (int buyer = 0; buyer < 4; buyer++) {
            check.is("the bill to buyer " + buyer, desk.plan(buyer), 1 << buyer);
        }
    }

    private static void promise4Supplier() {
        check.sentence("Promise 4", "supplier: 0 to 7");
        check.numbers(8, EarlybirdDesk::new, (d, supplier) -> d.bill(3, supplier, 1, 1));
        EarlybirdDesk desk = new EarlybirdDesk();
        for (int supplier = 0; supplier < 8; supplier++) {
            desk.bill(0, supplier, 5 + supplier, 1);
            desk.approve(supplier);
        }
        desk.pass(1);
        for (int supplier = 0; supplier < 8; supplier++) {
            desk.note(supplier, 5 + supplier);
            check.is("the bill of supplier " + supplier, desk.claim(0, supplier), 5 + supplier);
        }
    }

    private static void promise4Amount() {
        check.sentence("Promise 4", "amount: 1 to 1000000");
        check.range(1, 1000000, EarlybirdDesk::new, (d, amount) -> d.bill(0, 0, amount, 1));
        EarlybirdDesk desk = new EarlybirdDesk();
        desk.bill(0, 0, 1, 1);
        desk.bill(0, 0, 1000000, 1);
        check.is("the least", desk.amount(0), 1);
        check.is("the greatest", desk.amount(1), 1000000);
    }

    private static void promise4Days() {
        check.sentence("Promise 4", "days: days from today up to the due day, 1 to 360");
        check.range(1, 360, EarlybirdDesk::new, (d, days) -> d.bill(0, 0, 1, days));
        EarlybirdDesk desk = new EarlybirdDesk();
        desk.pass(300);
        desk.bill(0, 0, 5, 1);
        desk.bill(0, 0, 5, 360);
        desk.approve(0);
        desk.approve(1);
        check.is("the least number of days", desk.pass(1), 1);
        check.is("a day ahead of the greatest", desk.pass(358), 0);
        check.is("the greatest number of days", desk.pass(1), 1);
    }

    private static void promise4ReturnsNumber() {
        check.sentence("Promise 4", "Returns number of the bill.");
        EarlybirdDesk desk = new EarlybirdDesk();
        for (int bill = 0; bill < 30; bill++) {
            check.is("after " + bill + " bills", desk.bill(3 - bill % 4, 7 - bill % 8, 5, 5), bill);
            if (bill % 3 == 0) {
                desk.pass(5);
                desk.approve(bill);
            }
        }
    }

    private static void promise4ThrowsIndex() {
        check.sentence("Promise 4",
                "Throws IndexOutOfBoundsException if there is no such buyer or supplier");
        Check.Setting one = () -> Desks.withBills(1);
        check.noSuch("buyer -1", one, d -> d.bill(-1, 7, 1, 1));
        check.noSuch("buyer 4", one, d -> d.bill(4, 0, 1, 1));
        check.noSuch("supplier -1", one, d -> d.bill(3, -1, 1, 1));
        check.noSuch("supplier 8", one, d -> d.bill(0, 8, 1, 1));
        check.noSuch("neither", one, d -> d.bill(-1, 8, 1, 1));
    }

    private static void promise4ThrowsArgument() {
        check.sentence("Promise 4",
                "Throws IllegalArgumentException if amount or days is out of range");
        Check.Setting one = () -> Desks.withBills(1);
        check.outOfRange("amount 0", one, d -> d.bill(0, 0, 0, 1));
        check.outOfRange("amount 1000001", one, d -> d.bill(0, 0, 1000001, 360));
        check.outOfRange("days 0", one, d -> d.bill(0, 0, 1, 0));
        check.outOfRange("days 361", one, d -> d.bill(0, 0, 1000000, 361));
        check.outOfRange("neither in range", one, d -> d.bill(0, 0, 0, 361));
    }

    private static void promise4ThrowsState() {
        check.sentence("Promise 4", "Throws IllegalStateException if there are 30 bills");
        check.is("the 30th", Desks.withBills(29).bill(0, 0, 1, 1), 29);
        check.notNow("the 31st", Desks::full, d -> d.bill(0, 0, 1, 1));
        check.notNow("the 31st, to another buyer", Desks::full, d -> d.bill(3, 7, 1000000, 360));
        check.notNow("the 31st, when all are paid", () -> {
            EarlybirdDesk desk = Desks.full();
            desk.pass(10);
            for (int bill = 0; bill < 30; bill++) {
                desk.approve(bill);
            }
            return desk;
        }, d -> d.bill(0, 0, 1, 1));
        EarlybirdDesk refused = Desks.withBills(29);
        check.throwsAny("a refused 30th", refused, d -> d.bill(0, 0, 0, 1));
        check.is("takes no number", refused.bill(0, 0, 1, 1), 29);
    }

    // ---- promise 5

    private static void promise5OpenOrDisputed() {
        check.sentence("Promise 5", "Approves a bill that is open or disputed.");
        EarlybirdDesk desk = Desks.withBills(2);
        desk.approve(1);
        check.is("the open bill", desk.state(1), 1);
        check.is("only that", desk.state(0), 0);
        EarlybirdDesk disputed = Desks.disputed();
        disputed.approve(0);
        check.is("the disputed bill", disputed.state(0), 1);
    }

    private static void promise5Bill() {
        check.sentence("Promise 5", "bill: a bill");
        check.numbers(30, Desks::full, (d, bill) -> d.approve(bill));
    }

    private static void promise5ReturnsTrue() {
        check.sentence("Promise 5", "Returns true if it is paid by that.");
        EarlybirdDesk ahead = Desks.withBills(1);
        ahead.pass(9);
        check.is("a day ahead of the due day", ahead.approve(0), false);
        check.is("it is not paid", ahead.state(0), 1);
        EarlybirdDesk due = Desks.openOnItsDueDay();
        check.is("on the due day", due.approve(0), true);
        check.is("it is paid", due.state(0), 4);
        EarlybirdDesk nothing = Desks.ofAmountNothing();
        nothing.pass(10);
        check.is("of amount 0, on the due day", nothing.approve(0), true);
    }

    private static void promise5ThrowsIndex() {
        check.sentence("Promise 5",
                "Throws IndexOutOfBoundsException if there is no such bill");
        check.noSuch("0 of none", EarlybirdDesk::new, d -> d.approve(0));
        for (int bill : NO_BILLS) {
            check.noSuch("bill " + bill, Desks::full, d -> d.approve(bill));
        }
    }

    private static void promise5ThrowsState() {
        check.sentence("Promise 5",
                "Throws IllegalStateException if it is neither open nor disputed");
        check.notNow("approved", () -> Desks.approved(5, 5), d -> d.approve(0));
        check.notNow("approved, with an offer", () -> Desks.withOffers(1), d -> d.approve(0));
        check.notNow("paid early", Desks::paidEarly, d -> d.approve(0));
        check.notNow("paid when due", Desks::paidWhenDue, d -> d.approve(0));
    }

    // ---- promise 6

    private static void promise6OpenOrApproved() {
        check.sentence("Promise 6", "Disputes a bill that is open or approved");
        EarlybirdDesk desk = Desks.withBills(3);
        desk.approve(2);
        desk.dispute(1);
        desk.dispute(2);
        check.is("the open bill", desk.state(1), 2);
        check.is("the approved bill", desk.state(2), 2);
        check.is("only those", desk.state(0), 0);
        EarlybirdDesk due = Desks.openOnItsDueDay();
        due.dispute(0);
        check.is("an open bill on its due day", due.state(0), 2);
        EarlybirdDesk ahead = Desks.approved(5, 5);
        ahead.pass(4);
        ahead.dispute(0);
        check.is("an approved bill a day ahead of its due day", ahead.pass(1), 0);
    }

    private static void promise6OfferIsGone() {
        check.sentence("Promise 6", "its offer is gone");
        check.notNow("nothing to take back", Desks::disputed, d -> d.takeBack(0));
        EarlybirdDesk desk = Desks.withOffers(2);
        desk.setBudget(0, 1000000);
        desk.dispute(0);
        check.is("only its own", desk.plan(0), 2);
        desk.approve(0);
        check.is("approved again, without an offer", desk.plan(0), 2);
        check.is("the most", desk.most(0), 100);
        desk.offer(0, 0);
        check.is("another offer", desk.plan(0), 3);
    }

    private static void promise6Bill() {
        check.sentence("Promise 6", "bill: a bill");
        check.numbers(30, Desks::full, Desks::dispute);
    }

    private static void promise6ThrowsIndex() {
        check.sentence("Promise 6",
                "Throws IndexOutOfBoundsException if there is no such bill");
        check.noSuch("0 of none", EarlybirdDesk::new, d -> Desks.dispute(d, 0));
        for (int bill : NO_BILLS) {
            check.noSuch("bill " + bill, Desks::full, d -> Desks.dispute(d, bill));
        }
    }

    private static void promise6ThrowsState() {
        check.sentence("Promise 6",
                "Throws IllegalStateException if it is neither open nor approved");
        check.notNow("disputed", Desks::disputed, d -> Desks.dispute(d, 0));
        check.notNow("paid early", Desks::paidEarly, d -> Desks.dispute(d, 0));
        check.notNow("paid when due", Desks::paidWhenDue, d -> Desks.dispute(d, 0));
    }

    // ---- promise 7

    private static void promise7Bill() {
        check.sentence("Promise 7", "bill: a bill");
        check.numbers(30, Desks::full, (d, bill) -> d.note(bill, 1));
    }

    private static void promise7AmountOfUnpaid() {
        check.sentence("Promise 7", "amount: 1 up to its amount");
        Check.Setting open = () -> Desks.withBills(1);
        check.range(1, 1000, open, (d, amount) -> d.note(0, amount));
        check.range(1, 900, () -> Desks.offered(900, 9, 9), (d, amount) -> d.note(0, amount));
        check.range(1, 1000, Desks::disputed, (d, amount) -> d.note(0, amount));
        Check.Setting noted = () -> {
            EarlybirdDesk desk = open.make();
            desk.note(0, 300);
            return desk;
        };
        check.range(1, 700, noted, (d, amount) -> d.note(0, amount));
        check.outOfRange("1 of nothing", Desks::ofAmountNothing, d -> d.note(0, 1));
        check.outOfRange("0 of nothing", Desks::ofAmountNothing, d -> d.note(0, 0));
    }

    private static void promise7AmountOfPaid() {
        check.sentence("Promise 7", "for a bill that is paid, up to its amount less all notes");
        check.range(1, 1000, Desks::paidEarly, (d, amount) -> d.note(0, amount));
        check.range(1, 1000, Desks::paidWhenDue, (d, amount) -> d.note(0, amount));
        check.range(1, 700, () -> Desks.withClaim(300), (d, amount) -> d.note(0, amount));
        check.range(1, 1, () -> Desks.withClaim(999), (d, amount) -> d.note(0, amount));
        check.range(1, 1, () -> {
            EarlybirdDesk least = Desks.approved(1, 1);
            least.pass(1);
            return least;
        }, (d, amount) -> d.note(0, amount));
        check.outOfRange("1 behind all", () -> Desks.withClaim(1000), d -> d.note(0, 1));
        check.outOfRange("0 behind all", () -> Desks.withClaim(1000), d -> d.note(0, 0));
        check.outOfRange("1 of a paid amount of 0", () -> {
            EarlybirdDesk desk = Desks.ofAmountNothing();
            desk.pass(10);
            desk.approve(0);
            return desk;
        }, d -> d.note(0, 1));
    }

    private static void promise7AmountSinceItWasPaid() {
        check.sentence("Promise 7", "less all notes since it was paid");
        Check.Setting noted = () -> {
            EarlybirdDesk desk = Desks.withBills(1);
            desk.note(0, 600);
            desk.pass(10);
            desk.approve(0);
            return desk;
        };
        check.range(1, 400, noted, (d, amount) -> d.note(0, amount));
    }

    private static void promise7ReturnsAmount() {
        check.sentence("Promise 7", "Returns the amount of the bill then");
        EarlybirdDesk desk = Desks.withBills(1);
        check.is("the least note", desk.note(0, 1), 999);
        check.is("all but a cent", desk.note(0, 998), 1);
        check.is("the last cent", desk.note(0, 1), 0);
    }

    private static void promise7ReturnsAddedClaim() {
        check.sentence("Promise 7", "or what the note adds to the claim, if the bill is paid");
        EarlybirdDesk desk = Desks.paidEarly();
        check.is("the least note adds 0.95, rounded down", desk.note(0, 1), 0);
        check.is("then 9.5, rounded down", desk.note(0, 10), 9);
        check.is("all the rest", desk.note(0, 989), 939);
        check.is("all at once", Desks.paidEarly().note(0, 1000), 950);
        check.is("of a bill paid when due", Desks.paidWhenDue().note(0, 1), 1);
    }

    private static void promise7ThrowsIndex() {
        check.sentence("Promise 7",
                "Throws IndexOutOfBoundsException if there is no such bill");
        check.noSuch("0 of none", EarlybirdDesk::new, d -> d.note(0, 1));
        for (int bill : NO_BILLS) {
            check.noSuch("bill " + bill, Desks::full, d -> d.note(bill, 1));
        }
    }

    private static void promise7ThrowsArgument() {
        check.sentence("Promise 7", "Throws IllegalArgumentException if amount is out of range");
        check.outOfRange("0, not paid", Desks::full, d -> d.note(0, 0));
        check.outOfRange("a cent too much, not paid", Desks::full, d -> d.note(29, 1030));
        check.outOfRange("0, paid early", Desks::paidEarly, d -> d.note(0, 0));
        check.outOfRange("a cent too much, paid early", Desks::paidEarly, d -> d.note(0, 1001));
        check.outOfRange("a cent too much behind a note", Desks::ofAllKinds, d -> d.note(1, 401));
    }

    // ---- promise 8

    private static void promise8Bill() {
        check.sentence("Promise 8", "bill: a bill");
        check.numbers(30, Desks::full, (d, bill) -> d.state(bill));
    }

    private static void promise8Returns() {
        check.sentence("Promise 8", "Returns 0 to 4.");
        EarlybirdDesk desk = Desks.ofAllKinds();
        desk.pass(400);
        int[] due = {3, 4, 0, 2, 4};
        for (int bill = 0; bill < due.length; bill++) {
            check.is("bill " + bill + ", all due days passed", desk.state(bill), due[bill]);
        }
        check.is("approved", Desks.approved(5, 5).state(0), 1);
    }

    private static void promise8Throws() {
        check.sentence("Promise 8",
                "Throws IndexOutOfBoundsException if there is no such bill");
        check.noSuch("0 of none", EarlybirdDesk::new, d -> d.state(0));
        for (int bill : NO_BILLS) {
            check.noSuch("bill " + bill, Desks::full, d -> d.state(bill));
        }
    }

    // ---- promise 9

    private static void promise9Bill() {
        check.sentence("Promise 9", "bill: a bill");
        check.numbers(30, Desks::full, (d, bill) -> d.amount(bill));
    }

    private static void promise9Returns() {
        check.sentence("Promise 9", "Returns the amount.");
        EarlybirdDesk desk = Desks.full();
        for (int bill = 0; bill < 30; bill++) {
            check.is("of bill " + bill, desk.amount(bill), 1000 + bill);
        }
        check.is("the greatest", Desks.approved(1000000, 1).amount(0), 1000000);
        check.is("none", Desks.ofAmountNothing().amount(0), 0);
        EarlybirdDesk paid = Desks.withClaim(1000);
        check.is("of a paid bill, noted wholly", paid.amount(0), 1000);
    }

    private static void promise9Throws() {
        check.sentence("Promise 9",
                "Throws IndexOutOfBoundsException if there is no such bill");
        check.noSuch("0 of none", EarlybirdDesk::new, d -> d.amount(0));
        for (int bill : NO_BILLS) {
            check.noSuch("bill " + bill, Desks::full, d -> d.amount(bill));
        }
    }

    // ---- promise 10

    private static void promise10Bill() {
        check.sentence("Promise 10", "bill: a bill");
        check.numbers(30, Desks::full, (d, bill) -> d.paid(bill));
    }

    private static void promise10HeldBack() {
        check.sentence("Promise 10", "what was paid for a bill, whatever was held back of it");
        EarlybirdDesk desk = Desks.withClaim(1000);
        desk.bill(0, 0, 1000, 1);
        desk.pass(1);
        desk.approve(1);
        check.is("all was held back", desk.heldBack(1), 1000);
        check.is("paid", desk.paid(1), 1000);
    }

    private static void promise10Returns() {
        check.sentence("Promise 10", "Returns the price or the amount, 0 if it is not paid.");
        EarlybirdDesk desk = Desks.ofAllKinds();
        int[] due = {950, 600, 0, 0, 0};
        for (int bill = 0; bill < due.length; bill++) {
            check.is("of bill " + bill, desk.paid(bill), due[bill]);
        }
        check.is("an open bill on its due day", Desks.openOnItsDueDay().paid(0), 0);
        EarlybirdDesk nothing = Desks.ofAmountNothing();
        nothing.pass(10);
        nothing.approve(0);
        check.is("a paid amount of 0", nothing.paid(0), 0);
    }

    private static void promise10Throws() {
        check.sentence("Promise 10",
                "Throws IndexOutOfBoundsException if there is no such bill");
        check.noSuch("0 of none", EarlybirdDesk::new, d -> d.paid(0));
        for (int bill : NO_BILLS) {
            check.noSuch("bill " + bill, Desks::full, d -> d.paid(bill));
        }
    }

    // ---- promise 11

    private static void promise11Bill() {
        check.sentence("Promise 11", "bill: a bill");
        check.numbers(30, Desks::full, (d, bill) -> d.heldBack(bill));
    }

    private static void promise11Returns() {
        check.sentence("Promise 11", "Returns the sum, 0 if it is not paid.");
        EarlybirdDesk desk = Desks.withClaim(700);
        for (int bill = 1; bill < 6; bill++) {
            desk.bill(0, 0, 300, 10);
        }
        desk.approve(1);
        desk.dispute(2);
        for (int bill = 1; bill < 4; bill++) {
            check.is("of bill " + bill + ", which is not paid", desk.heldBack(bill), 0);
        }
        desk.pass(10);
        desk.approve(3);
        desk.approve(4);
        desk.approve(5);
        int[] due = {0, 300, 0, 300, 100, 0};
        for (int bill = 0; bill < due.length; bill++) {
            check.is("of bill " + bill, desk.heldBack(bill), due[bill]);
        }
    }

    private static void promise11Throws() {
        check.sentence("Promise 11",
                "Throws IndexOutOfBoundsException if there is no such bill");
        check.noSuch("0 of none", EarlybirdDesk::new, d -> d.heldBack(0));
        for (int bill : NO_BILLS) {
            check.noSuch("bill " + bill, Desks::full, d -> d.heldBack(bill));
        }
    }
}
