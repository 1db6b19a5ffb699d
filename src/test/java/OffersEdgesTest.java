/** Sentences of promises 12 to 16 (offers and clearing) that name an edge, a test for each. */
public final class OffersEdgesTest {
    private static final Check check = new Check();
    private static final int[] NO_BUYERS = {-1, 4, Integer.MIN_VALUE, Integer.MAX_VALUE};
    private static final int[] NO_BILLS = {-1, 3, 30, Integer.MIN_VALUE, Integer.MAX_VALUE};
    private static final int ALL_30 = (1 << 30) - 1;

    public static void main(String[] args) {
        offers();
        takingBack();
        plans();
        clearings();
        mosts();
        check.end();
    }

    private static void offers() {
        check.test(OffersEdgesTest::promise12InPlaceOfEarlier);
        check.test(OffersEdgesTest::promise12Bill);
        check.test(OffersEdgesTest::promise12Rate);
        check.test(OffersEdgesTest::promise12ReturnsPriceToday);
        check.test(OffersEdgesTest::promise12ThrowsIndex);
        check.test(OffersEdgesTest::promise12ThrowsArgument);
        check.test(OffersEdgesTest::promise12ThrowsStateNotApproved);
        check.test(OffersEdgesTest::promise12ThrowsStateDueDay);
    }

    private static void takingBack() {
        check.test(OffersEdgesTest::promise13Bill);
        check.test(OffersEdgesTest::promise13ReturnsRate);
        check.test(OffersEdgesTest::promise13ThrowsIndex);
        check.test(OffersEdgesTest::promise13ThrowsStateNoOffer);
        check.test(OffersEdgesTest::promise13ThrowsStatePaid);
    }

    private static void plans() {
        check.test(OffersEdgesTest::promise14IfClearedNow);
        check.test(OffersEdgesTest::promise14Buyer);
        check.test(OffersEdgesTest::promise14ReturnsSet);
        check.test(OffersEdgesTest::promise14Throws);
    }

    private static void clearings() {
        check.test(OffersEdgesTest::promise15Buyer);
        check.test(OffersEdgesTest::promise15ReturnsDiscounts);
        check.test(OffersEdgesTest::promise15Throws);
    }

    private static void mosts() {
        check.test(OffersEdgesTest::promise16AnyChoice);
        check.test(OffersEdgesTest::promise16CentMoreWithoutFirst);
        check.test(OffersEdgesTest::promise16AsTheyCouldBeClearedNow);
        check.test(OffersEdgesTest::promise16WithinBudget);
        check.test(OffersEdgesTest::promise16WithinLimits);
        check.test(OffersEdgesTest::promise16BelowNothing);
        check.test(OffersEdgesTest::promise16NoneChosen);
        check.test(OffersEdgesTest::promise16Buyer);
        check.test(OffersEdgesTest::promise16ReturnsSum);
        check.test(OffersEdgesTest::promise16ThrowsIndex);
        check.test(OffersEdgesTest::promise16ThrowsState);
        check.test(OffersEdgesTest::promise16SuchOffersOnly);
    }

    // ---- promise 12

    private static void promise12InPlaceOfEarlier() {
        check.sentence("Promise 12", "Makes an offer for a bill, in place of an earlier one.");
        EarlybirdDesk desk = Desks.offered(1000, 360, 5000);
        desk.offer(0, 0);
        desk.setBudget(0, 999);
        check.is("the earlier price of 500 is gone", desk.plan(0), 0);
        check.is("the rate", desk.takeBack(0), 0);
        check.throwsAny("the earlier one is not there again", desk, d -> d.takeBack(0));
        Check.Setting offered = () -> Desks.offered(1000, 360, 5000);
        check.outOfRange("an offer out of range leaves it", offered, d -> d.offer(0, 5001));
    }

    private static void promise12Bill() {
        check.sentence("Promise 12", "bill: a bill");
        check.numbers(30, () -> Desks.withOffers(30), (d, bill) -> d.offer(bill, 1));
    }

    private static void promise12Rate() {
        check.sentence("Promise 12", "rate: 0 to 5000");
        check.range(0, 5000, () -> Desks.approved(1000, 360), (d, rate) -> d.offer(0, rate));
        check.is("the least", Desks.approved(1000, 360).offer(0, 0), 1000);
        check.is("the greatest", Desks.approved(1000, 360).offer(0, 5000), 500);
    }

    private static void promise12ReturnsPriceToday() {
        check.sentence("Promise 12", "Returns the price today.");
        EarlybirdDesk desk = Desks.approved(720, 360);
        check.is("360 days ahead", desk.offer(0, 5000), 360);
        desk.pass(1);
        check.is("359 days ahead", desk.offer(0, 5000), 361);
        desk.pass(358);
        check.is("a day ahead", desk.offer(0, 5000), 719);
        desk.note(0, 1);
        check.is("of a cent less", desk.offer(0, 5000), 719);
        desk.note(0, 719);
        check.is("of nothing", desk.offer(0, 5000), 0);
    }

    private static void promise12ThrowsIndex() {
        check.sentence("Promise 12",
                "Throws IndexOutOfBoundsException if there is no such bill");
        check.noSuch("0 of none", EarlybirdDesk::new, d -> d.offer(0, 1));
        for (int bill : NO_BILLS) {
            check.noSuch("bill " + bill, () -> Desks.withOffers(3), d -> d.offer(bill, 1));
        }
    }

    private static void promise12ThrowsArgument() {
        check.sentence("Promise 12", "Throws IllegalArgumentException if rate is out of range");
        for (int rate : new int[] {-1, 5001, 10000, Integer.MIN_VALUE, Integer.MAX_VALUE}) {
            check.outOfRange("rate " + rate, () -> Desks.withOffers(3), d -> d.offer(2, rate));
        }
    }

    private static void promise12ThrowsStateNotApproved() {
        check.sentence("Promise 12", "Throws IllegalStateException if the bill is not approved");
        check.notNow("open", Desks::full, d -> d.offer(29, 0));
        check.notNow("disputed", Desks::disputed, d -> d.offer(0, 0));
        check.notNow("paid early", Desks::paidEarly, d -> d.offer(0, 0));
        check.notNow("paid when due", Desks::paidWhenDue, d -> d.offer(0, 0));
    }

    private static void promise12ThrowsStateDueDay() {
        check.sentence("Promise 12",
                "Throws IllegalStateException if [..] its due day is not later than today");
        EarlybirdDesk desk = Desks.approved(1000, 2);
        desk.pass(1);
        check.is("a day ahead of the due day", desk.offer(0, 0), 1000);
        check.notNow("on the due day", () -> {
            EarlybirdDesk due = Desks.approved(1000, 2);
            due.pass(2);
            return due;
        }, d -> d.offer(0, 0));
        check.notNow("a day after it", () -> {
            EarlybirdDesk late = Desks.approved(1000, 2);
            late.pass(3);
            return late;
        }, d -> d.offer(0, 0));
    }

    // ---- promise 13

    private static void promise13Bill() {
        check.sentence("Promise 13", "bill: a bill");
        check.numbers(30, () -> Desks.withOffers(30), (d, bill) -> d.takeBack(bill));
    }

    private static void promise13ReturnsRate() {
        check.sentence("Promise 13", "Returns its rate.");
        check.is("the least", Desks.offered(1000, 10, 0).takeBack(0), 0);
        check.is("the greatest", Desks.offered(1000, 10, 5000).takeBack(0), 5000);
        EarlybirdDesk desk = Desks.withOffers(3);
        desk.offer(1, 7);
        desk.setBudget(0, 1000000);
        check.is("of bill 1", desk.takeBack(1), 7);
        check.is("the others' offers stay", desk.plan(0), 5);
        desk.pass(35);
        check.is("a day ahead of the due day", desk.takeBack(0), 100);
    }

    private static void promise13ThrowsIndex() {
        check.sentence("Promise 13",
                "Throws IndexOutOfBoundsException if there is no such bill");
        check.noSuch("0 of none", EarlybirdDesk::new, d -> d.takeBack(0));
        for (int bill : NO_BILLS) {
            check.noSuch("bill " + bill, () -> Desks.withOffers(3), d -> d.takeBack(bill));
        }
    }

    private static void promise13ThrowsStateNoOffer() {
        check.sentence("Promise 13", "Throws IllegalStateException if there is no offer for it");
        check.notNow("open", Desks::full, d -> d.takeBack(0));
        check.notNow("approved", () -> Desks.approved(1000, 10), d -> d.takeBack(0));
        check.notNow("disputed", Desks::disputed, d -> d.takeBack(0));
        check.notNow("taken back", () -> {
            EarlybirdDesk desk = Desks.withOffers(2);
            desk.takeBack(0);
            return desk;
        }, d -> d.takeBack(0));
    }

    private static void promise13ThrowsStatePaid() {
        check.sentence("Promise 13", "Throws IllegalStateException if [..] it is paid");
        check.notNow("paid early", Desks::paidEarly, d -> d.takeBack(0));
        check.notNow("paid when due", Desks::paidWhenDue, d -> d.takeBack(0));
    }

    // ---- promise 14

    private static void promise14IfClearedNow() {
        check.sentence("Promise 14",
                "Returns the bills whose offers would be accepted if a buyer was cleared now.");
        Check.Setting some = () -> {
            EarlybirdDesk desk = Desks.withOffers(10);
            desk.setBudget(0, 3 * 99900 - 1);
            desk.setLimit(0, 0, 99900);
            desk.offer(8, 200);
            desk.offer(9, 300);
            return desk;
        };
        EarlybirdDesk desk = some.make();
        int plan = desk.plan(0);
        check.is("nothing is changed", Snapshot.of(desk), Snapshot.of(some.make()));
        EarlybirdDesk cleared = some.make();
        cleared.clear(0);
        int paid = 0;
        for (int bill = 0; bill < 10; bill++) {
            paid |= cleared.state(bill) == 3 ? 1 << bill : 0;
        }
        check.is("those that clear pays", plan, paid);
        check.is("bills 8 and 9, and the first that the limits leave", plan, 1 << 9 | 1 << 8 | 2);
    }

    private static void promise14Buyer() {
        check.sentence("Promise 14", "buyer: 0 to 3");
        check.numbers(4, () -> Desks.withOffers(3), (d, buyer) -> d.plan(buyer));
    }

    private static void promise14ReturnsSet() {
        check.sentence("Promise 14", "Returns the bills, as a set: bit b for bill b.");
        check.is("no bills", new EarlybirdDesk().plan(0), 0);
        check.is("no offer accepted", Desks.withOffers(30).plan(0), 0);
        EarlybirdDesk desk = Desks.withOffers(30);
        desk.setBudget(0, 100000000);
        check.is("all", desk.plan(0), ALL_30);
        for (int bill = 0; bill < 30; bill++) {
            desk.offer(bill, 101);
            desk.setBudget(0, 99899);
            check.is("only bill " + bill, desk.plan(0), 1 << bill);
            desk.offer(bill, 100);
        }
    }

    private static void promise14Throws() {
        check.sentence("Promise 14",
                "Throws IndexOutOfBoundsException if there is no such buyer");
        for (int buyer : NO_BUYERS) {
            check.noSuch("buyer " + buyer, () -> Desks.withOffers(3), d -> d.plan(buyer));
        }
    }

    // ---- promise 15

    private static void promise15Buyer() {
        check.sentence("Promise 15", "buyer: 0 to 3");
        check.numbers(4, () -> Desks.withOffers(3), (d, buyer) -> d.clear(buyer));
        EarlybirdDesk desk = new EarlybirdDesk();
        for (int buyer = 0; buyer < 4; buyer++) {
            desk.bill(buyer, 0, 1000 * (buyer + 1), 360);
            desk.approve(buyer);
            desk.offer(buyer, 100);
            desk.setBudget(buyer, 10000);
        }
        for (int buyer = 0; buyer < 4; buyer++) {
            check.is("the offers of buyer " + buyer, desk.clear(buyer), 10 * (buyer + 1));
        }
    }

    private static void promise15ReturnsDiscounts() {
        check.sentence("Promise 15",
                "Returns the discounts of all offers that are accepted, together.");
        check.is("no bills", new EarlybirdDesk().clear(0), 0);
        check.is("none accepted", Desks.withOffers(30).clear(0), 0);
        EarlybirdDesk zero = Desks.offered(1000, 360, 0);
        zero.setBudget(0, 1000);
        check.is("an offer without discount", zero.clear(0), 0);
        check.is("which was accepted", zero.state(0), 3);
        EarlybirdDesk great = new EarlybirdDesk();
        for (int bill = 0; bill < 30; bill++) {
            great.bill(3, 7, 1000000, 360);
            great.approve(bill);
            great.offer(bill, 5000);
        }
        great.setBudget(3, 100000000);
        great.setLimit(3, 7, 15000000);
        check.is("the greatest of 30", great.clear(3), 15000000);
        check.is("all of the limit", great.left(3, 7), 0);
        check.is("and not again", great.clear(3), 0);
    }

    private static void promise15Throws() {
        check.sentence("Promise 15",
                "Throws IndexOutOfBoundsException if there is no such buyer");
        for (int buyer : NO_BUYERS) {
            check.noSuch("buyer " + buyer, Desks::ofAllKinds, d -> d.clear(buyer));
        }
    }

    // ---- promise 16

    /** Offers with discounts of 100 each, but for the last, and a budget for all of them. */
    private static EarlybirdDesk withTwelve(int rateOfLast) {
        EarlybirdDesk desk = Desks.withOffers(12);
        desk.offer(11, rateOfLast);
        desk.setBudget(0, 100000000);
        return desk;
    }

    private static void promise16AnyChoice() {
        check.sentence("Promise 16", "Returns the greatest sum of discounts that any choice of the"
                + " buyer's offers, as they could be cleared now, would bring");
        EarlybirdDesk desk = new EarlybirdDesk();
        int[] amounts = {10000, 6000, 5000};
        int[] rates = {5000, 4900, 4800};
        for (int bill = 0; bill < amounts.length; bill++) {
            desk.bill(0, bill, amounts[bill], 360);
            desk.approve(bill);
            desk.offer(bill, rates[bill]);
        }
        desk.setBudget(0, 5000);
        check.is("the first alone, or the second", desk.most(0), 5000);
        desk.setBudget(0, 5660);
        check.is("the second and the third", desk.most(0), 2940 + 2400);
        desk.setBudget(0, 5659);
        check.is("a cent less than these", desk.most(0), 5000);
        check.is("the plan is the first", desk.plan(0), 1);
        EarlybirdDesk same = new EarlybirdDesk();
        for (int bill = 0; bill < 2; bill++) {
            same.bill(0, 0, bill == 0 ? 100 : 1000, 360);
            same.approve(bill);
            same.offer(bill, bill == 0 ? 5000 : 2000);
        }
        same.setBudget(0, 10000);
        same.setLimit(0, 0, 800);
        check.is("the second of the same supplier, without the first", same.most(0), 200);
        same.setLimit(0, 0, 799);
        check.is("a cent less of the limit", same.most(0), 50);
    }

    private static void promise16CentMoreWithoutFirst() {
        check.sentence("Promise 16", "the greatest sum of discounts that any choice [..] would bring");
        EarlybirdDesk desk = new EarlybirdDesk();
        int[] amounts = {1100, 1000, 1010};
        int[] rates = {910, 500, 505};
        for (int bill = 0; bill < amounts.length; bill++) {
            desk.bill(0, bill, amounts[bill], 360);
            desk.approve(bill);
            desk.offer(bill, rates[bill]);
        }
        desk.setBudget(0, 950 + 959);
        check.is("50 and 51, rather than 100", desk.most(0), 101);
        desk.setBudget(0, 950 + 958);
        check.is("100, when 50 and 51 are a cent too much", desk.most(0), 100);
    }

    private static void promise16AsTheyCouldBeClearedNow() {
        check.sentence("Promise 16", "as they could be cleared now");
        EarlybirdDesk desk = withTwelve(200);
        check.is("all", desk.most(0), 1300);
        desk.takeBack(0);
        desk.dispute(1);
        check.is("without those taken back and disputed", desk.most(0), 1100);
        desk.setBudget(0, 99900);
        desk.clear(0);
        desk.setBudget(0, 100000000);
        check.is("without those paid early", desk.most(0), 900);
        desk.pass(35);
        check.is("a day ahead of the due day, 2.7 each", desk.most(0), 18);
        desk.pass(1);
        check.is("on the due day", desk.most(0), 0);
    }

    private static void promise16WithinBudget() {
        check.sentence("Promise 16", "whose prices together are within the budget");
        EarlybirdDesk desk = withTwelve(100);
        desk.setBudget(0, 12 * 99900);
        check.is("as much as all prices", desk.most(0), 1200);
        desk.setBudget(0, 12 * 99900 - 1);
        check.is("a cent less", desk.most(0), 1100);
        desk.setBudget(0, 99900);
        check.is("as much as a price", desk.most(0), 100);
        desk.setBudget(0, 99899);
        check.is("a cent less than a price", desk.most(0), 0);
    }

    private static void promise16WithinLimits() {
        check.sentence("Promise 16",
                "for each supplier of which an offer is chosen within what is left of its limit");
        EarlybirdDesk desk = withTwelve(200);
        desk.setLimit(0, 3, 99900 + 99800);
        check.is("as much as both prices of supplier 3", desk.most(0), 1300);
        desk.setLimit(0, 3, 99900 + 99800 - 1);
        check.is("a cent less", desk.most(0), 1200);
        desk.setLimit(0, 3, 99800 - 1);
        check.is("a cent less than each of them", desk.most(0), 1000);
        desk.setLimit(0, 3, 99800);
        desk.setBudget(0, 99800);
        desk.clear(0);
        desk.setBudget(0, 100000000);
        check.is("nothing is left of the limit", desk.most(0), 1000);
        desk.setLimit(0, 3, 99800 + 99900);
        check.is("as much is left as the other price", desk.most(0), 1100);
    }

    private static void promise16BelowNothing() {
        check.sentence("Promise 16", "for each supplier of which an offer is chosen");
        EarlybirdDesk desk = Desks.withOffers(2);
        desk.offer(0, 200);
        desk.setBudget(0, 99800);
        desk.clear(0);
        desk.setBudget(0, 99900);
        desk.setLimit(0, 0, 0);
        check.is("supplier 0 is far below 0", desk.left(0, 0), -99800);
        check.is("an offer of supplier 1 alone", desk.most(0), 100);
        desk.bill(0, 0, 10, 360);
        desk.approve(2);
        desk.offer(2, 5000);
        check.is("an offer of supplier 0 is not chosen", desk.most(0), 100);
    }

    private static void promise16NoneChosen() {
        check.sentence("Promise 16", "0 for choosing none");
        check.is("no bills", new EarlybirdDesk().most(0), 0);
        check.is("no offers", Desks.full().most(0), 0);
        check.is("no budget", Desks.withOffers(12).most(0), 0);
        EarlybirdDesk noLimits = withTwelve(100);
        for (int supplier = 0; supplier < 8; supplier++) {
            noLimits.setLimit(0, supplier, 0);
        }
        check.is("no limits", noLimits.most(0), 0);
    }

    private static void promise16Buyer() {
        check.sentence("Promise 16", "buyer: 0 to 3");
        check.numbers(4, () -> Desks.withOffers(3), (d, buyer) -> d.most(buyer));
        EarlybirdDesk desk = new EarlybirdDesk();
        for (int buyer = 0; buyer < 4; buyer++) {
            desk.bill(buyer, 0, 1000 * (buyer + 1), 360);
            desk.approve(buyer);
            desk.offer(buyer, 100);
            desk.setBudget(buyer, 10000);
        }
        for (int buyer = 0; buyer < 4; buyer++) {
            check.is("the offers of buyer " + buyer, desk.most(buyer), 10 * (buyer + 1));
        }
    }

    private static void promise16ReturnsSum() {
        check.sentence("Promise 16", "Returns the sum.");
        EarlybirdDesk great = new EarlybirdDesk();
        for (int bill = 0; bill < 12; bill++) {
            great.bill(0, 0, 1000000, 360);
            great.approve(bill);
            great.offer(bill, 5000);
        }
        great.setBudget(0, 100000000);
        check.is("the greatest of 12", great.most(0), 6000000);
        EarlybirdDesk zero = Desks.offered(1000, 360, 0);
        zero.setBudget(0, 1000);
        check.is("of an offer without discount", zero.most(0), 0);
    }

    private static void promise16ThrowsIndex() {
        check.sentence("Promise 16",
                "Throws IndexOutOfBoundsException if there is no such buyer");
        for (int buyer : NO_BUYERS) {
            check.noSuch("buyer " + buyer, Desks::ofAllKinds, d -> d.most(buyer));
        }
    }

    private static void promise16ThrowsState() {
        check.sentence("Promise 16",
                "Throws IllegalStateException if there are more than 12 such offers");
        check.is("11", Desks.withOffers(11).most(0), 0);
        check.is("12", Desks.withOffers(12).most(0), 0);
        check.notNow("13, without a budget", () -> Desks.withOffers(13), d -> d.most(0));
        check.notNow("13, with a budget", () -> {
            EarlybirdDesk desk = Desks.withOffers(13);
            desk.setBudget(0, 100000000);
            return desk;
        }, d -> d.most(0));
        check.notNow("30", () -> Desks.withOffers(30), d -> d.most(0));
    }

    private static void promise16SuchOffersOnly() {
        check.sentence("Promise 16", "more than 12 such offers");
        EarlybirdDesk desk = Desks.withOffers(13);
        check.is("13, of another buyer", desk.most(1), 0);
        desk.takeBack(12);
        check.is("12 and a bill without one", desk.most(0), 0);
        desk.offer(12, 0);
        check.throwsAny("13 again", desk, d -> d.most(0));
        desk.dispute(5);
        check.is("12 and a disputed bill", desk.most(0), 0);
        EarlybirdDesk paid = Desks.withOffers(13);
        paid.setBudget(0, 99900);
        paid.clear(0);
        check.is("12 and a bill paid early", paid.most(0), 0);
        paid.pass(36);
        check.is("all paid", paid.most(0), 0);
    }
}
