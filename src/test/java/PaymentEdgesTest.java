/** Sentences of "Terms" from "Due days" on that name an edge, a test for each. */
public final class PaymentEdgesTest {
    private static final Check check = new Check();

    public static void main(String[] args) {
        check.test(PaymentEdgesTest::paidWhenDayPasses);
        check.test(PaymentEdgesTest::paidByRisingNumbers);
        check.test(PaymentEdgesTest::onlyApprovedArePaid);
        check.test(PaymentEdgesTest::approvedOnDueDayOrLater);
        check.test(PaymentEdgesTest::claimByNoteOnPaid);
        check.test(PaymentEdgesTest::claimRoundedDown);
        check.test(PaymentEdgesTest::claimWhateverWasHeldBack);
        check.test(PaymentEdgesTest::claimOfGreatNumbers);
        check.test(PaymentEdgesTest::amountStays);
        check.test(PaymentEdgesTest::notesAtMostTheAmount);
        check.test(PaymentEdgesTest::heldBackAsFarAsItGoes);
        check.test(PaymentEdgesTest::heldBackOfEachPayment);
        check.test(PaymentEdgesTest::heldBackFromThisSupplier);
        check.test(PaymentEdgesTest::countedByPrices);
        check.test(PaymentEdgesTest::noSuchBuyerSupplierBill);
        check.test(PaymentEdgesTest::otherArgumentOutOfRange);
        check.test(PaymentEdgesTest::notPossibleNow);
        check.test(PaymentEdgesTest::indexGoesFirst);
        check.test(PaymentEdgesTest::argumentGoesAheadOfState);
        check.test(PaymentEdgesTest::exceptionChangesNothing);
        check.end();
    }

    // ---- due days

    private static void paidWhenDayPasses() {
        check.sentence("Terms, Due days", "When a day passes, then today is the next day, and all"
                + " approved bills whose due day is today are paid by their amounts");
        EarlybirdDesk desk = new EarlybirdDesk();
        int[] days = {1, 2, 2, 3, 360};
        for (int bill = 0; bill < days.length; bill++) {
            desk.bill(bill % 4, bill, 100 + bill, days[bill]);
            desk.approve(bill);
        }
        desk.offer(3, 5000);
        int[] due = {1, 2, 1, 0};
        for (int day = 0; day < due.length; day++) {
            check.is("paid on day " + (day + 1), desk.pass(1), due[day]);
            check.is("today", desk.today(), day + 1);
        }
        check.is("by its amount, whatever was offered", desk.paid(3), 103);
        check.is("up to a day ahead of the last", desk.pass(355), 0);
        check.is("not paid yet", desk.state(4), 1);
        check.is("the last", desk.pass(1), 1);
        check.is("paid", desk.state(4), 4);
    }

    private static void paidByRisingNumbers() {
        check.sentence("Terms, Due days", "by rising numbers");
        EarlybirdDesk desk = Desks.withClaim(900);
        for (int bill = 1; bill < 30; bill++) {
            desk.bill(0, 0, 100, 5);
        }
        for (int bill = 29; bill > 0; bill--) {
            desk.approve(bill);
        }
        check.is("29 on a day", desk.pass(5), 29);
        for (int bill = 1; bill < 30; bill++) {
            check.is("held back of " + bill, desk.heldBack(bill), bill <= 9 ? 100 : 0);
        }
    }

    private static void onlyApprovedArePaid() {
        check.sentence("Terms, Due days", "all approved bills whose due day is today");
        check.is("an open one", Desks.withBills(1).pass(10), 0);
        check.is("a disputed one", Desks.disputed().pass(10), 0);
        check.is("one paid early", Desks.paidEarly().pass(359), 0);
        check.is("none", new EarlybirdDesk().pass(400), 0);
        check.is("paid already", Desks.paidWhenDue().pass(400), 0);
    }

    private static void approvedOnDueDayOrLater() {
        check.sentence("Terms, Due days", "If a bill that is not approved gets approved on its due"
                + " day or later, it is paid at once.");
        int[] days = {9, 10, 11, 400};
        for (int day : days) {
            EarlybirdDesk open = Desks.withBills(1);
            EarlybirdDesk disputed = Desks.disputed();
            open.pass(day);
            disputed.pass(day);
            check.is("an open bill due on day 10, on day " + day, open.approve(0), day >= 10);
            check.is("its state", open.state(0), day >= 10 ? 4 : 1);
            check.is("paid for it", open.paid(0), day >= 10 ? 1000 : 0);
            check.is("a disputed one, on day " + day, disputed.approve(0), day >= 10);
            check.is("its state", disputed.state(0), day >= 10 ? 4 : 1);
        }
        EarlybirdDesk late = Desks.openOnItsDueDay();
        late.pass(1);
        late.approve(0);
        check.is("and not again", late.pass(400), 0);
    }

    // ---- notes on bills that are paid

    private static void claimByNoteOnPaid() {
        check.sentence("Terms, Notes", "Notes on bills that are paid, early or not: the buyer then"
                + " has a claim against the supplier");
        EarlybirdDesk desk = Desks.ofAllKinds();
        check.is("notes of 100 for 950 of 1000, and of 200", desk.claim(0, 0), 95 + 200);
        desk.note(2, 700);
        desk.note(3, 800);
        desk.note(4, 900);
        check.is("notes on bills that are not paid", desk.claim(0, 0), 295);
        desk.note(0, 900);
        check.is("all of the bill paid early", desk.claim(0, 0), 950 + 200);
        desk.note(1, 400);
        check.is("all of the bill paid when due", desk.claim(0, 0), 950 + 600);
        check.is("by another buyer", desk.claim(1, 0), 0);
        check.is("against another supplier", desk.claim(0, 1), 0);
    }

    private static void claimRoundedDown() {
        check.sentence("Terms, Notes", "amount of the note * what was paid for the bill / its"
                + " amount when it was paid, rounded down");
        EarlybirdDesk desk = Desks.paidEarly();
        check.is("0.95 of 1", desk.note(0, 1), 0);
        check.is("18.05 of 19", desk.note(0, 19), 18);
        check.is("19 of 20", desk.note(0, 20), 19);
        check.is("19.95 of 21", desk.note(0, 21), 19);
        check.is("the claim", desk.claim(0, 0), 56);
        EarlybirdDesk noted = new EarlybirdDesk();
        noted.bill(0, 0, 1000, 360);
        noted.note(0, 500);
        noted.approve(0);
        noted.offer(0, 5000);
        noted.setBudget(0, 375);
        noted.clear(0);
        noted.note(0, 400);
        check.is("250 for 500, not for the 1000 that it was", noted.claim(0, 0), 200);
    }

    private static void claimWhateverWasHeldBack() {
        check.sentence("Terms, Notes", "What is paid for a bill is what the price, or the amount,"
                + " is; but of that the buyer holds back");
        EarlybirdDesk desk = Desks.withClaim(1000);
        desk.bill(0, 0, 1000, 1);
        desk.approve(1);
        desk.pass(1);
        check.is("nothing is left of the claim", desk.claim(0, 0), 0);
        check.is("a note on the bill of which all was held back", desk.note(1, 600), 600);
        check.is("the claim", desk.claim(0, 0), 600);
    }

    private static void claimOfGreatNumbers() {
        check.sentence("Terms, Notes", "amount of the note * what was paid for the bill / its"
                + " amount when it was paid");
        EarlybirdDesk due = Desks.approved(1000000, 1);
        due.pass(1);
        check.is("1000000 * 1000000 / 1000000", due.note(0, 1000000), 1000000);
        EarlybirdDesk early = Desks.offered(1000000, 360, 5000);
        early.setBudget(0, 500000);
        early.clear(0);
        check.is("4295 * 500000 / 1000000", early.note(0, 4295), 2147);
        check.is("995705 * 500000 / 1000000", early.note(0, 995705), 497852);
    }

    private static void amountStays() {
        check.sentence("Terms, Notes", "(The amount of the bill stays.)");
        EarlybirdDesk early = Desks.paidEarly();
        early.note(0, 1000);
        check.is("paid early, noted wholly", early.amount(0), 1000);
        EarlybirdDesk due = Desks.paidWhenDue();
        due.note(0, 1000);
        check.is("paid when due, noted wholly", due.amount(0), 1000);
        check.is("what was paid stays too", due.paid(0), 1000);
    }

    private static void notesAtMostTheAmount() {
        check.sentence("Terms, Notes",
                "All notes on a bill that is paid are at most its amount together.");
        Check.Setting noted = () -> Desks.withClaim(999);
        check.is("the last cent", noted.make().note(0, 1), 1);
        check.outOfRange("a cent more", noted, d -> d.note(0, 2));
        check.outOfRange("a note behind all", () -> Desks.withClaim(1000), d -> d.note(0, 1));
        check.outOfRange("a cent more at once", Desks::paidEarly, d -> d.note(0, 1001));
        check.outOfRange("so much that a sum turns negative", noted,
                d -> d.note(0, Integer.MAX_VALUE));
        Check.Setting thrice = () -> {
            EarlybirdDesk desk = Desks.withClaim(500);
            desk.note(0, 300);
            desk.note(0, 100);
            return desk;
        };
        check.outOfRange("a cent more after three notes", thrice, d -> d.note(0, 101));
        check.is("all that is left after three notes", thrice.make().note(0, 100), 100);
    }

    private static void heldBackAsFarAsItGoes() {
        check.sentence("Terms, Notes", "of that the buyer holds back what is claimed from the"
                + " supplier, as far as it goes, and the claim is less by that");
        int[] claims = {1, 499, 500, 501, 1000};
        for (int claim : claims) {
            EarlybirdDesk desk = Desks.withClaim(claim);
            desk.bill(0, 0, 500, 1);
            desk.approve(1);
            desk.pass(1);
            check.is("held back by a claim of " + claim, desk.heldBack(1), Math.min(claim, 500));
            check.is("what is left of it", desk.claim(0, 0), Math.max(claim - 500, 0));
            check.is("what is paid", desk.paid(1), 500);
        }
        EarlybirdDesk none = Desks.paidWhenDue();
        check.is("without a claim", none.heldBack(0), 0);
        EarlybirdDesk nothing = Desks.withClaim(7);
        nothing.bill(0, 0, 1, 1);
        nothing.note(1, 1);
        nothing.approve(1);
        nothing.pass(1);
        check.is("of a payment of 0", nothing.heldBack(1), 0);
        check.is("the whole claim is left", nothing.claim(0, 0), 7);
    }

    private static void heldBackOfEachPayment() {
        check.sentence("Terms, Notes", "What is paid for a bill is what the price, or the amount,"
                + " is; but of that the buyer holds back what is claimed from the supplier");
        EarlybirdDesk early = Desks.withClaim(1000);
        early.bill(0, 0, 1000, 360);
        early.approve(1);
        early.offer(1, 500);
        early.setBudget(0, 950);
        early.clear(0);
        check.is("paid early, by its price", early.heldBack(1), 950);
        check.is("the claim", early.claim(0, 0), 50);
        check.is("what is paid", early.paid(1), 950);
        early.bill(0, 0, 49, 1);
        early.pass(1);
        early.approve(2);
        check.is("paid by its approval", early.heldBack(2), 49);
        early.bill(0, 0, 49, 1);
        early.approve(3);
        early.pass(1);
        check.is("paid when due", early.heldBack(3), 1);
        check.is("no claim is left", early.claim(0, 0), 0);
    }

    private static void heldBackFromThisSupplier() {
        check.sentence("Terms, Notes", "what is claimed from the supplier");
        EarlybirdDesk desk = Desks.withClaim(1000);
        desk.bill(0, 1, 500, 1);
        desk.bill(1, 0, 500, 1);
        desk.approve(1);
        desk.approve(2);
        desk.pass(1);
        check.is("of another supplier's bill", desk.heldBack(1), 0);
        check.is("by another buyer", desk.heldBack(2), 0);
        check.is("the claim", desk.claim(0, 0), 1000);
    }

    private static void countedByPrices() {
        check.sentence("Terms, Notes",
                "Budget and limits are counted by prices, whatever is held back.");
        Check.Setting claiming = () -> {
            EarlybirdDesk desk = Desks.withClaim(1000);
            desk.bill(0, 0, 1000, 360);
            desk.approve(1);
            desk.offer(1, 500);
            desk.setBudget(0, 950);
            desk.setLimit(0, 0, 950);
            return desk;
        };
        EarlybirdDesk budget = claiming.make();
        budget.setBudget(0, 949);
        check.is("a cent less of budget than the price", budget.plan(0), 0);
        check.is("the most then", budget.most(0), 0);
        EarlybirdDesk limit = claiming.make();
        limit.setLimit(0, 0, 949);
        check.is("a cent less of limit than the price", limit.plan(0), 0);
        check.is("the most then", limit.most(0), 0);
        EarlybirdDesk desk = claiming.make();
        desk.clear(0);
        check.is("all was held back", desk.heldBack(1), 950);
        check.is("what is left of the limit", desk.left(0, 0), 0);
        check.is("what is left of the budget", desk.setBudget(0, 0), 0);
        desk.note(1, 1000);
        check.is("what is left of the limit, after a note of all", desk.left(0, 0), 0);
        check.is("what is left of the budget, after it", desk.setBudget(0, 0), 0);
    }

    // ---- exceptions

    private static void noSuchBuyerSupplierBill() {
        check.sentence("Terms", "IndexOutOfBoundsException is thrown for a buyer, supplier or bill"
                + " that does not exist");
        Check.Setting setting = Desks::ofAllKinds;
        for (int buyer : new int[] {-1, 4, 32, 65536, Integer.MIN_VALUE, Integer.MAX_VALUE}) {
            check.noSuch("buyer " + buyer, setting, d -> d.left(buyer, 0));
            check.noSuch("buyer " + buyer, setting, d -> d.clear(buyer));
        }
        for (int supplier : new int[] {-1, 8, 65536, Integer.MIN_VALUE, Integer.MAX_VALUE}) {
            check.noSuch("supplier " + supplier, setting, d -> d.left(1, supplier));
            check.noSuch("supplier " + supplier, setting, d -> d.bill(1, supplier, 1, 1));
        }
        for (int bill : new int[] {-1, 5, 29, 30, 65536, Integer.MIN_VALUE, Integer.MAX_VALUE}) {
            check.noSuch("bill " + bill, setting, d -> d.state(bill));
            check.noSuch("bill " + bill, setting, d -> d.approve(bill));
        }
    }

    private static void otherArgumentOutOfRange() {
        check.sentence("Terms", "IllegalArgumentException for another argument out of range");
        Check.Setting setting = Desks::ofAllKinds;
        for (int odd : new int[] {-1, Integer.MIN_VALUE, Integer.MAX_VALUE}) {
            check.outOfRange("budget " + odd, setting, d -> d.setBudget(0, odd));
            check.outOfRange("limit " + odd, setting, d -> d.setLimit(0, 0, odd));
            check.outOfRange("amount " + odd, setting, d -> d.bill(0, 0, odd, 1));
            check.outOfRange("days " + odd, setting, d -> d.bill(0, 0, 1, odd));
            check.outOfRange("note " + odd, setting, d -> d.note(0, odd));
            check.outOfRange("note " + odd, setting, d -> d.note(2, odd));
            check.outOfRange("rate " + odd, setting, d -> d.offer(4, odd));
            check.outOfRange("pass " + odd, setting, d -> d.pass(odd));
        }
    }

    private static void notPossibleNow() {
        check.sentence("Terms", "IllegalStateException if a call is not possible now");
        Check.Setting setting = Desks::ofAllKinds;
        check.notNow("approve a bill paid early", setting, d -> d.approve(0));
        check.notNow("dispute a paid bill", setting, d -> Desks.dispute(d, 1));
        check.notNow("offer for an open bill", setting, d -> d.offer(2, 0));
        check.notNow("take back from a disputed bill", setting, d -> d.takeBack(3));
        check.notNow("average of a buyer without bills", setting, d -> d.averageDiscount(1));
        check.notNow("bill 31", Desks::full, d -> d.bill(3, 7, 1, 1));
        check.notNow("most of 13", () -> Desks.withOffers(13), d -> d.most(0));
    }

    private static void indexGoesFirst() {
        check.sentence("Terms", "If several apply, IndexOutOfBoundsException goes first");
        Check.Setting full = Desks::full;
        check.noSuch("setBudget(4, -1)", full, d -> d.setBudget(4, -1));
        check.noSuch("setLimit(-1, 0, -1)", full, d -> d.setLimit(-1, 0, -1));
        check.noSuch("setLimit(0, 8, 100000001)", full, d -> d.setLimit(0, 8, 100000001));
        check.noSuch("bill(4, 0, 0, 1)", full, d -> d.bill(4, 0, 0, 1));
        check.noSuch("bill(4, 0, 1, 0)", full, d -> d.bill(4, 0, 1, 0));
        check.noSuch("bill(0, 8, 0, 1)", full, d -> d.bill(0, 8, 0, 1));
        check.noSuch("bill(0, 8, 1, 361)", full, d -> d.bill(0, 8, 1, 361));
        check.noSuch("bill(0, -1, 1, 1), the 31st", full, d -> d.bill(0, -1, 1, 1));
        check.noSuch("bill(-1, 0, 1, 1), the 31st", full, d -> d.bill(-1, 0, 1, 1));
        check.noSuch("note(30, 0)", full, d -> d.note(30, 0));
        check.noSuch("offer(-1, 5001)", full, d -> d.offer(-1, 5001));
        check.noSuch("most(4)", () -> Desks.withOffers(13), d -> d.most(4));
        check.noSuch("averageDiscount(4)", full, d -> d.averageDiscount(4));
    }

    private static void argumentGoesAheadOfState() {
        check.sentence("Terms", "IndexOutOfBoundsException goes first, then"
                + " IllegalArgumentException");
        check.outOfRange("bill 31 of amount 0", Desks::full, d -> d.bill(0, 0, 0, 1));
        check.outOfRange("bill 31 of 361 days", Desks::full, d -> d.bill(0, 0, 1, 361));
        check.outOfRange("rate -1, open", Desks::full, d -> d.offer(0, -1));
        check.outOfRange("rate 5001, disputed", Desks::disputed, d -> d.offer(0, 5001));
        check.outOfRange("rate 5001, paid early", Desks::paidEarly, d -> d.offer(0, 5001));
        check.outOfRange("rate -1, paid", Desks::paidWhenDue, d -> d.offer(0, -1));
        check.outOfRange("rate -1, due", Desks::openOnItsDueDay, d -> d.offer(0, -1));
    }

    private static void exceptionChangesNothing() {
        check.sentence("Terms", "A call that throws an exception changes nothing.");
        Check.Call[] refused = {
            d -> d.setBudget(0, -1), d -> d.setBudget(4, 5), d -> d.setLimit(0, 0, 100000001),
            d -> d.setLimit(0, 8, 5), d -> d.bill(0, 0, 5, 0), d -> d.bill(0, 0, 0, 5),
            d -> d.bill(0, 8, 5, 5), d -> d.approve(0), d -> d.approve(1), d -> d.approve(4),
            d -> d.approve(5), d -> Desks.dispute(d, 0), d -> Desks.dispute(d, 1),
            d -> Desks.dispute(d, 3), d -> Desks.dispute(d, 5), d -> d.note(0, 901),
            d -> d.note(1, 401), d -> d.note(2, 701), d -> d.note(4, 0), d -> d.note(5, 1),
            d -> d.offer(0, 5), d -> d.offer(1, 5), d -> d.offer(2, 5), d -> d.offer(3, 5),
            d -> d.offer(4, 5001), d -> d.takeBack(0), d -> d.takeBack(1), d -> d.takeBack(2),
            d -> d.takeBack(3), d -> d.plan(4), d -> d.clear(-1), d -> d.most(4),
            d -> d.left(0, 8), d -> d.claim(4, 0), d -> d.averageDiscount(1), d -> d.pass(0),
            d -> d.pass(401), d -> d.state(5), d -> d.amount(-1), d -> d.paid(5), d -> d.heldBack(5),
        };
        EarlybirdDesk desk = Desks.ofAllKinds();
        for (int i = 0; i < refused.length; i++) {
            check.throwsAny("call " + i, desk, refused[i]);
        }
        check.is("all in a row", Snapshot.of(desk), Snapshot.of(Desks.ofAllKinds()));
    }
}
