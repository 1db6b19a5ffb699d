/** Promises 12 to 16: offers and clearing. */
public final class OffersTest {
    private static final Check check = new Check();

    public static void main(String[] args) {
        promise12Offer();
        promise12PricesOfDays();
        promise12Refusals();
        promise13TakeBack();
        promise14PlanByRates();
        promise14PlanWithin();
        promise14PlanBelowNothing();
        promise14PlanOnlyWhatCanBeCleared();
        promise15Clear();
        promise15LimitsCountAhead();
        promise15HoldsBackByRates();
        promise15BudgetByPrices();
        promise16Most();
        promise16MostWithinLimits();
        promise16MostLeavesOneForAnother();
        promise16TwelveOffers();
        check.end();
    }

    private static void promise12Offer() {
        EarlybirdDesk desk = Desks.approved(5000, 60);
        check.is("the price", desk.offer(0, 600), 4950);
        check.is("an offer in place of it", desk.offer(0, 1200), 4900);
        check.is("its rate", desk.takeBack(0), 1200);
        check.is("rate 0", desk.offer(0, 0), 5000);
        check.is("rate 5000", desk.offer(0, 5000), 4584);
        desk.note(0, 5000);
        check.is("of amount 0", desk.offer(0, 5000), 0);
        check.is("the greatest discount", Desks.approved(1000000, 360).offer(0, 5000), 500000);
        EarlybirdDesk again = Desks.offered(1000, 10, 300);
        again.dispute(0);
        again.approve(0);
        check.is("after a dispute", again.offer(0, 360), 999);
    }

    private static void promise12PricesOfDays() {
        EarlybirdDesk desk = Desks.approved(100000, 36);
        check.is("36 days ahead", desk.offer(0, 100), 99900);
        desk.pass(1);
        check.is("35 days ahead, 97.2 rounded down", desk.offer(0, 100), 99903);
        desk.pass(34);
        check.is("1 day ahead, 2.7 rounded down", desk.offer(0, 100), 99998);
        EarlybirdDesk noted = Desks.offered(100000, 36, 100);
        noted.note(0, 40000);
        noted.setBudget(0, 59940);
        check.is("the offer stays when the amount is less", noted.plan(0), 1);
        noted.setBudget(0, 59939);
        check.is("its price goes by the amount", noted.plan(0), 0);
    }

    private static void promise12Refusals() {
        Check.Setting approved = () -> Desks.offered(1000, 10, 300);
        check.noSuch("offer(1, 100)", approved, d -> d.offer(1, 100));
        check.noSuch("offer(-1, -1)", approved, d -> d.offer(-1, -1));
        check.outOfRange("rate -1", approved, d -> d.offer(0, -1));
        check.outOfRange("rate 5001", approved, d -> d.offer(0, 5001));
        Check.Setting open = () -> Desks.withBills(1);
        check.notNow("offer for an open bill", open, d -> d.offer(0, 100));
        check.outOfRange("rate 5001 for an open bill", open, d -> d.offer(0, 5001));
        check.notNow("offer for a disputed bill", () -> {
            EarlybirdDesk desk = Desks.approved(1000, 10);
            desk.dispute(0);
            return desk;
        }, d -> d.offer(0, 100));
        check.notNow("offer for a bill paid early", Desks::paidEarly, d -> d.offer(0, 100));
        check.notNow("offer for a paid bill", Desks::paidWhenDue, d -> d.offer(0, 100));
        check.notNow("offer for an open bill that is due", () -> {
            EarlybirdDesk desk = Desks.withBills(1);
            desk.pass(10);
            return desk;
        }, d -> d.offer(0, 100));
    }

    private static void promise13TakeBack() {
        EarlybirdDesk desk = Desks.offered(1000, 10, 300);
        desk.setBudget(0, 1000);
        check.is("its rate", desk.takeBack(0), 300);
        check.is("the offer is gone", desk.plan(0), 0);
        desk.offer(0, 0);
        check.is("an offer at the rate 0", desk.takeBack(0), 0);
        Check.Setting taken = () -> {
            EarlybirdDesk one = Desks.offered(1000, 10, 300);
            one.takeBack(0);
            return one;
        };
        check.notNow("take back twice", taken, d -> d.takeBack(0));
        check.notNow("take back from an open bill", () -> Desks.withBills(1), d -> d.takeBack(0));
        check.notNow("take back when paid early", Desks::paidEarly, d -> d.takeBack(0));
        check.notNow("take back when paid", Desks::paidWhenDue, d -> d.takeBack(0));
        check.noSuch("takeBack(1)", taken, d -> d.takeBack(1));
        check.noSuch("takeBack(-1)", taken, d -> d.takeBack(-1));
    }

    private static void promise14PlanByRates() {
        EarlybirdDesk desk = Desks.withOffers(5);
        check.is("without a budget", desk.plan(0), 0);
        desk.setBudget(0, 199800);
        check.is("of the same rate by rising bills", desk.plan(0), 1 | 2);
        desk.offer(4, 101);
        desk.setBudget(0, 199799);
        check.is("the highest rate first", desk.plan(0), 1 << 4 | 1);
        desk.offer(2, 102);
        check.is("and then the next", desk.plan(0), 1 << 4 | 1 << 2);
        desk.offer(0, 99);
        desk.setBudget(0, 100000000);
        check.is("all", desk.plan(0), 31);
        check.is("planned only", desk.state(0), 1);
        check.is("another buyer's", desk.plan(1), 0);
        check.is("the budget stays", desk.setBudget(0, 0), 100000000);
        check.noSuch("plan(4)", () -> Desks.withOffers(1), d -> d.plan(4));
        check.noSuch("plan(-1)", () -> Desks.withOffers(1), d -> d.plan(-1));
        EarlybirdDesk full = Desks.withOffers(30);
        full.setBudget(0, 100000000);
        check.is("of 30 bills", full.plan(0), (1 << 30) - 1);
    }

    private static void promise14PlanWithin() {
        EarlybirdDesk desk = Desks.withOffers(3);
        desk.note(1, 50000);
        desk.setBudget(0, 99899);
        check.is("a smaller one goes after a refused one", desk.plan(0), 2);
        desk.setBudget(0, 99900);
        check.is("a price of all the budget", desk.plan(0), 1);
        desk.setBudget(0, 1000000);
        desk.setLimit(0, 2, 99899);
        check.is("over the limit", desk.plan(0), 3);
        desk.setLimit(0, 2, 99900);
        check.is("a price of all the limit", desk.plan(0), 7);
        EarlybirdDesk same = Desks.withOffers(9);
        same.setBudget(0, 10000000);
        same.setLimit(0, 0, 199799);
        check.is("accepted ahead of it", same.plan(0), 255);
        same.setLimit(0, 0, 199800);
        check.is("within the limit together", same.plan(0), 511);
    }

    private static void promise14PlanBelowNothing() {
        Check.Setting nothing = () -> {
            EarlybirdDesk desk = Desks.paidEarly();
            desk.bill(0, 0, 20, 10);
            desk.note(1, 20);
            desk.approve(1);
            desk.offer(1, 5000);
            return desk;
        };
        EarlybirdDesk desk = nothing.make();
        check.is("a price of 0 without a budget", desk.plan(0), 2);
        desk.setLimit(0, 0, 950);
        check.is("within a limit of which 0 is left", desk.plan(0), 2);
        desk.setLimit(0, 0, 949);
        check.is("with less than 0 left", desk.plan(0), 0);
        check.is("nothing is accepted", desk.clear(0), 0);
        check.is("it is not paid", desk.state(1), 1);
    }

    private static void promise14PlanOnlyWhatCanBeCleared() {
        EarlybirdDesk desk = Desks.withOffers(3);
        desk.setBudget(0, 100000000);
        desk.dispute(0);
        desk.takeBack(1);
        check.is("disputed, taken back", desk.plan(0), 4);
        check.is("the same for most", desk.most(0), 100);
        desk.pass(35);
        check.is("a day ahead of the due day", desk.plan(0), 4);
        desk.pass(1);
        check.is("paid", desk.plan(0), 0);
        check.is("paid, for most", desk.most(0), 0);
    }

    private static void promise15Clear() {
        EarlybirdDesk desk = Desks.withOffers(3);
        desk.offer(2, 200);
        desk.setBudget(0, 199700);
        check.is("the discounts", desk.clear(0), 300);
        check.is("the first of the same rate is paid", desk.state(0), 3);
        check.is("its price", desk.paid(0), 99900);
        check.is("the highest rate is paid", desk.state(2), 3);
        check.is("its price", desk.paid(2), 99800);
        check.is("the refused one stays", desk.state(1), 1);
        check.is("the budget is less", desk.setBudget(0, 99899), 0);
        check.is("nothing more", desk.clear(0), 0);
        desk.setBudget(0, 99900);
        check.is("another buyer's", desk.clear(1), 0);
        check.is("the offer that stayed", desk.clear(0), 100);
        check.is("no offers", new EarlybirdDesk().clear(3), 0);
        check.noSuch("clear(4)", () -> Desks.withOffers(1), d -> d.clear(4));
        check.noSuch("clear(-1)", () -> Desks.withOffers(1), d -> d.clear(-1));
    }

    private static void promise15LimitsCountAhead() {
        EarlybirdDesk desk = Desks.withOffers(9);
        desk.setBudget(0, 10000000);
        desk.setLimit(0, 0, 199799);
        check.is("all but the last", desk.clear(0), 800);
        check.is("refused by the limit", desk.state(8), 1);
        check.is("left of the limit", desk.left(0, 0), 99899);
        desk.setLimit(0, 0, 199800);
        check.is("within the limit", desk.clear(0), 100);
        check.is("nothing left of the limit", desk.left(0, 0), 0);
        check.is("the budget left", desk.setBudget(0, 0), 10000000 - 9 * 99900);
    }

    private static void promise15HoldsBackByRates() {
        EarlybirdDesk desk = Desks.withClaim(1000);
        desk.bill(0, 0, 900, 10);
        desk.bill(0, 0, 900, 10);
        desk.approve(1);
        desk.approve(2);
        desk.offer(1, 100);
        desk.offer(2, 200);
        desk.setBudget(0, 1800);
        check.is("the discounts", desk.clear(0), 0);
        check.is("held back first of the highest rate", desk.heldBack(2), 900);
        check.is("then of the next", desk.heldBack(1), 100);
        check.is("the claim", desk.claim(0, 0), 0);
    }

    private static void promise15BudgetByPrices() {
        EarlybirdDesk desk = Desks.withClaim(1000);
        desk.bill(0, 0, 900, 10);
        desk.approve(1);
        desk.offer(1, 0);
        desk.setBudget(0, 899);
        check.is("the claim doesn't help the budget", desk.plan(0), 0);
        desk.setBudget(0, 900);
        desk.setLimit(0, 0, 899);
        check.is("nor the limit", desk.plan(0), 0);
        desk.setLimit(0, 0, 900);
        desk.clear(0);
        check.is("held back", desk.heldBack(1), 900);
        check.is("the budget is less by the price", desk.setBudget(0, 0), 0);
        check.is("the limit is less by the price", desk.left(0, 0), 0);
    }

    private static void promise16Most() {
        EarlybirdDesk desk = new EarlybirdDesk();
        int[] amounts = {1000, 600, 600, 300};
        int[] rates = {2000, 1900, 1900, 1800};
        for (int bill = 0; bill < 4; bill++) {
            desk.bill(1, bill, amounts[bill], 360);
            desk.approve(bill);
            desk.offer(bill, rates[bill]);
        }
        check.is("without a budget", desk.most(1), 0);
        desk.setBudget(1, 1000);
        check.is("the plan takes the highest rate", desk.plan(1), 1);
        check.is("800 are paid for 200, 972 for 228", desk.most(1), 228);
        desk.setBudget(1, 971);
        check.is("now 800 for 200 are the most", desk.most(1), 200);
        desk.setBudget(1, 972);
        check.is("prices of all the budget", desk.most(1), 228);
        desk.setBudget(1, 10000);
        check.is("all", desk.most(1), 482);
        desk.pass(180);
        check.is("all, half a year later", desk.most(1), 241);
        check.is("nothing is changed", desk.plan(1), 15);
        check.is("another buyer's", desk.most(0), 0);
        check.noSuch("most(4)", () -> Desks.withOffers(13), d -> d.most(4));
        check.noSuch("most(-1)", () -> Desks.withOffers(13), d -> d.most(-1));
    }

    private static void promise16MostWithinLimits() {
        EarlybirdDesk desk = Desks.withOffers(9);
        desk.setBudget(0, 100000000);
        desk.offer(8, 200);
        desk.setLimit(0, 0, 199699);
        check.is("one of the two of the supplier", desk.most(0), 900);
        desk.setLimit(0, 0, 199700);
        check.is("both", desk.most(0), 1000);
        desk.setLimit(0, 0, 99800);
        check.is("the cheap one of the two", desk.most(0), 900);
        desk.setLimit(0, 0, 99799);
        check.is("none of the supplier", desk.most(0), 700);
        desk.setLimit(0, 0, 99900);
        desk.takeBack(8);
        desk.clear(0);
        desk.offer(8, 200);
        check.is("what is left of the limit counts", desk.most(0), 0);
        desk.setLimit(0, 0, 99900 + 99800);
        check.is("with as much left as the price", desk.most(0), 200);
    }

    private static void promise16MostLeavesOneForAnother() {
        EarlybirdDesk desk = Desks.withOffers(9);
        desk.setBudget(0, 100000000);
        desk.note(8, 90000);
        desk.offer(8, 200);
        desk.setLimit(0, 0, 99900);
        check.is("the plan takes 20 for the higher rate", desk.plan(0), 511 - 1);
        check.is("most takes 100 of that supplier", desk.most(0), 800);
        desk.setLimit(0, 0, 99899);
        check.is("which needs the limit for itself", desk.most(0), 720);
    }

    private static void promise16TwelveOffers() {
        EarlybirdDesk desk = Desks.withOffers(12);
        desk.setBudget(0, 5 * 99900);
        check.is("12 offers", desk.most(0), 500);
        check.notNow("13 offers", () -> Desks.withOffers(13), d -> d.most(0));
        EarlybirdDesk more = Desks.withOffers(13);
        more.setBudget(0, 99900);
        check.is("another buyer's offers don't count", more.most(1), 0);
        more.clear(0);
        check.is("paid bills don't count", more.most(0), 0);
        EarlybirdDesk none = Desks.withOffers(13);
        none.takeBack(3);
        none.setBudget(0, 99900);
        check.is("only offers count", none.most(0), 100);
    }
}
