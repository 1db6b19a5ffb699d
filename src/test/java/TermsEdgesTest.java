/** Sentences of "What it is" and of "Terms" up to "Clearing" that name an edge, a test for each. */
public final class TermsEdgesTest {
    private static final Check check = new Check();

    public static void main(String[] args) {
        check.test(TermsEdgesTest::usedFor512Calls);
        check.test(TermsEdgesTest::dearestOf512Calls);
        check.test(TermsEdgesTest::buyersAndSuppliers);
        check.test(TermsEdgesTest::daysFromNothing);
        check.test(TermsEdgesTest::billsFromNothing);
        check.test(TermsEdgesTest::statesOfBill);
        check.test(TermsEdgesTest::amountMayBecomeNothing);
        check.test(TermsEdgesTest::amountLessUntilPaid);
        check.test(TermsEdgesTest::offerForDueDayLaterThanToday);
        check.test(TermsEdgesTest::yearOf360Days);
        check.test(TermsEdgesTest::discountRoundedDown);
        check.test(TermsEdgesTest::discountOfGreatNumbers);
        check.test(TermsEdgesTest::priceIsAmountLessDiscount);
        check.test(TermsEdgesTest::budgetAndLimitForEach);
        check.test(TermsEdgesTest::offersNotDueAreGoneThrough);
        check.test(TermsEdgesTest::offersByFallingRates);
        check.test(TermsEdgesTest::paymentsByFallingRates);
        check.test(TermsEdgesTest::offersOfSameRateByRisingBills);
        check.test(TermsEdgesTest::acceptedWithinBudget);
        check.test(TermsEdgesTest::acceptedWithinLimit);
        check.test(TermsEdgesTest::acceptedOtherwiseRefused);
        check.test(TermsEdgesTest::leftOfLimitUpToDueDay);
        check.test(TermsEdgesTest::leftOfLimitOfThisPair);
        check.test(TermsEdgesTest::leftOfLimitWithThoseAhead);
        check.test(TermsEdgesTest::budgetLessByPrice);
        check.test(TermsEdgesTest::refusedOffersStay);
        check.end();
    }

    // ---- what it is

    private static void usedFor512Calls() {
        check.sentence("What it is", "An object is used for at most 512 calls after it has been made");
        EarlybirdDesk desk = new EarlybirdDesk();
        for (int call = 1; call <= 508; call++) {
            desk.pass(400);
        }
        check.is("call 509, a bill of the last days", desk.bill(0, 0, 7, 360), 0);
        check.is("call 510, its approval", desk.approve(0), false);
        check.is("call 511, its due day", desk.pass(360), 1);
        check.is("call 512", desk.today(), 508 * 400 + 360);
    }

    private static void dearestOf512Calls() {
        check.sentence("What it is", "An object is used for at most 512 calls after it has been made");
        EarlybirdDesk desk = Desks.withOffers(12);
        desk.setBudget(0, 6 * 99900);
        for (int call = 38; call <= 512; call++) {
            check.is("call " + call, desk.most(0), 600);
        }
    }

    // ---- numbers

    private static void buyersAndSuppliers() {
        check.sentence("Terms", "Buyers are 0 to 3, suppliers 0 to 7.");
        EarlybirdDesk desk = new EarlybirdDesk();
        for (int pair = 0; pair < 32; pair++) {
            desk.setLimit(pair / 8, pair % 8, 500 + pair);
        }
        for (int pair = 0; pair < 32; pair++) {
            check.is("of buyer " + pair / 8 + " for supplier " + pair % 8,
                    desk.left(pair / 8, pair % 8), 500 + pair);
        }
        check.numbers(4, EarlybirdDesk::new, (d, buyer) -> d.left(buyer, 7));
        check.numbers(8, EarlybirdDesk::new, (d, supplier) -> d.left(3, supplier));
    }

    private static void daysFromNothing() {
        check.sentence("Terms", "Days are numbered from 0; today is day 0 at first.");
        check.is("today", new EarlybirdDesk().today(), 0);
        EarlybirdDesk desk = new EarlybirdDesk();
        desk.bill(0, 0, 5, 5);
        desk.pass(1);
        check.is("the day after it", desk.today(), 1);
    }

    private static void billsFromNothing() {
        check.sentence("Terms", "Bills are numbered from 0.");
        check.noSuch("bill 0 of none", EarlybirdDesk::new, d -> d.amount(0));
        EarlybirdDesk desk = new EarlybirdDesk();
        for (int bill = 0; bill < 30; bill++) {
            check.is("the number", desk.bill(bill % 4, bill % 8, 1 + bill, 1), bill);
        }
        for (int bill = 0; bill < 30; bill++) {
            check.is("the bill of number " + bill, desk.amount(bill), 1 + bill);
        }
    }

    // ---- bills

    private static void statesOfBill() {
        check.sentence("Terms, Bills", "It is open (0) at first, approved (1), disputed (2),"
                + " paid early (3), or paid (4).");
        EarlybirdDesk desk = Desks.ofAllKinds();
        int[] due = {3, 4, 0, 2, 1};
        for (int bill = 0; bill < due.length; bill++) {
            check.is("bill " + bill, desk.state(bill), due[bill]);
        }
        check.is("at first", Desks.full().state(29), 0);
    }

    private static void amountMayBecomeNothing() {
        check.sentence("Terms, Bills", "its amount may become 0");
        EarlybirdDesk desk = Desks.ofAmountNothing();
        check.is("the amount", desk.amount(0), 0);
        check.is("it stays open", desk.state(0), 0);
        check.is("it is approved as others are", desk.approve(0), false);
        check.is("an offer's price", desk.offer(0, 5000), 0);
        check.is("accepted with a budget of 0", desk.plan(0), 1);
        check.is("the most", desk.most(0), 0);
        check.is("its discount", desk.clear(0), 0);
        check.is("paid early", desk.state(0), 3);
        check.is("what was paid", desk.paid(0), 0);
        EarlybirdDesk due = Desks.ofAmountNothing();
        due.approve(0);
        check.is("paid when due", due.pass(10), 1);
        EarlybirdDesk late = Desks.ofAmountNothing();
        late.pass(10);
        check.is("paid by its approval", late.approve(0), true);
    }

    private static void amountLessUntilPaid() {
        check.sentence("Terms, Bills",
                "Credit notes make its amount less as long as it is not paid");
        EarlybirdDesk desk = Desks.ofAllKinds();
        int[] due = {1000, 600, 699, 799, 899};
        for (int bill = 0; bill < due.length; bill++) {
            desk.note(bill, 1);
            check.is("bill " + bill, desk.amount(bill), due[bill]);
        }
    }

    // ---- offers

    private static void offerForDueDayLaterThanToday() {
        check.sentence("Terms, Offers", "For an approved bill whose due day is later than today"
                + " an offer can be made");
        EarlybirdDesk desk = Desks.approved(1000000, 10);
        desk.pass(9);
        check.is("a day ahead of the due day", desk.offer(0, 5000), 998612);
        check.notNow("on the due day", Desks::paidWhenDue, d -> d.offer(0, 5000));
        check.notNow("open on the due day", Desks::openOnItsDueDay, d -> d.offer(0, 5000));
        check.notNow("approved on the due day", () -> {
            EarlybirdDesk due = Desks.openOnItsDueDay();
            due.approve(0);
            return due;
        }, d -> d.offer(0, 5000));
    }

    private static void yearOf360Days() {
        check.sentence("Terms, Offers",
                "at a rate, in hundredths of a percent for a year of 360 days");
        check.is("a hundredth of a percent of 10000", Desks.approved(10000, 360).offer(0, 1), 9999);
        check.is("for a day less than a year", Desks.approved(10000, 359).offer(0, 1), 10000);
        check.is("a percent of 100", Desks.approved(100, 360).offer(0, 100), 99);
        check.is("for half a year", Desks.approved(200, 180).offer(0, 100), 199);
    }

    private static void discountRoundedDown() {
        check.sentence("Terms, Offers", "The discount today is amount * rate * days up to the due"
                + " day / 3600000, rounded down");
        check.is("1 of 1000", Desks.approved(1000, 36).offer(0, 100), 999);
        check.is("0.999 of 999", Desks.approved(999, 36).offer(0, 100), 999);
        check.is("1.001 of 1001", Desks.approved(1001, 36).offer(0, 100), 1000);
        check.is("1.998 of 1998", Desks.approved(1998, 36).offer(0, 100), 1997);
        check.is("0.5 of 1", Desks.approved(1, 360).offer(0, 5000), 1);
        check.is("1 of 2", Desks.approved(2, 360).offer(0, 5000), 1);
        check.is("at the rate 0", Desks.approved(1000000, 360).offer(0, 0), 1000000);
        check.is("1.38 for a day", Desks.approved(1000, 1).offer(0, 5000), 999);
        EarlybirdDesk later = Desks.approved(1000, 36);
        later.pass(1);
        check.is("0.972 a day later", later.offer(0, 100), 1000);
    }

    private static void discountOfGreatNumbers() {
        check.sentence("Terms, Offers", "The discount today is amount * rate * days up to the due"
                + " day / 3600000");
        check.is("of 1800000000000", Desks.approved(1000000, 360).offer(0, 5000), 500000);
        check.is("of 1799998200000", Desks.approved(999999, 360).offer(0, 5000), 500000);
        check.is("1 less than 484864 * 3600000", Desks.approved(973013, 359).offer(0, 4997), 488150);
        check.is("of 2147485000", Desks.approved(429497, 1).offer(0, 5000), 428901);
        check.is("of 1794641000000", Desks.approved(1000000, 359).offer(0, 4999), 501489);
        EarlybirdDesk old = new EarlybirdDesk();
        for (int i = 0; i < 250; i++) {
            old.pass(400);
        }
        old.bill(0, 0, 1000000, 360);
        old.approve(0);
        check.is("from day 100000 on", old.offer(0, 5000), 500000);
    }

    private static void priceIsAmountLessDiscount() {
        check.sentence("Terms, Offers", "the price is the amount less the discount");
        EarlybirdDesk desk = Desks.offered(1000, 36, 100);
        desk.note(0, 1);
        desk.setBudget(0, 998);
        check.is("999 without discount is more than 998", desk.plan(0), 0);
        desk.setBudget(0, 999);
        check.is("the discount goes by the amount that is left", desk.clear(0), 0);
        check.is("the price", desk.paid(0), 999);
    }

    // ---- clearing

    private static void budgetAndLimitForEach() {
        check.sentence("Terms, Clearing", "A buyer has a budget, and a limit for each supplier.");
        EarlybirdDesk desk = new EarlybirdDesk();
        for (int buyer = 0; buyer < 4; buyer++) {
            desk.bill(buyer, 0, 100, 10);
            desk.approve(buyer);
            desk.offer(buyer, 0);
            desk.setBudget(buyer, 100);
        }
        desk.setLimit(1, 0, 99);
        check.is("of buyer 0", desk.plan(0), 1);
        check.is("of buyer 1", desk.plan(1), 0);
        desk.clear(2);
        check.is("of buyer 3", desk.plan(3), 8);
        check.is("the budget of buyer 2", desk.setBudget(2, 0), 0);
        check.is("the budget of buyer 3", desk.setBudget(3, 0), 100);
    }

    private static void offersNotDueAreGoneThrough() {
        check.sentence("Terms, Clearing", "The offers of bills to the buyer that are approved and"
                + " not due (the due day is later than today) are gone through");
        EarlybirdDesk desk = Desks.withOffers(4);
        desk.setBudget(0, 1000000);
        desk.setBudget(1, 1000000);
        desk.dispute(1);
        desk.takeBack(2);
        desk.pass(35);
        check.is("a day ahead of the due day", desk.plan(0), 1 | 8);
        check.is("not of another buyer", desk.plan(1), 0);
        desk.pass(1);
        check.is("on the due day", desk.plan(0), 0);
        check.is("on the due day", desk.clear(0), 0);
    }

    private static void offersByFallingRates() {
        check.sentence("Terms, Clearing", "are gone through by falling rates");
        EarlybirdDesk desk = new EarlybirdDesk();
        int[] rates = {0, 4999, 1, 5000, 2500};
        for (int bill = 0; bill < rates.length; bill++) {
            desk.bill(0, bill, 10, 1);
            desk.approve(bill);
            desk.offer(bill, rates[bill]);
        }
        int[] byRate = {3, 1, 4, 2, 0};
        int set = 0;
        for (int count = 0; count < byRate.length; count++) {
            set |= 1 << byRate[count];
            desk.setBudget(0, 10 * (count + 1));
            check.is("with a budget for " + (count + 1), desk.plan(0), set);
        }
    }

    private static void paymentsByFallingRates() {
        check.sentence("Terms, Clearing", "are gone through by falling rates");
        EarlybirdDesk desk = Desks.withClaim(100);
        for (int bill = 1; bill <= 3; bill++) {
            desk.bill(0, 0, 70, 1);
            desk.approve(bill);
            desk.offer(bill, bill == 2 ? 5000 : 0);
        }
        desk.setBudget(0, 210);
        desk.clear(0);
        check.is("held back of the highest rate first", desk.heldBack(2), 70);
        check.is("then of the lower bill", desk.heldBack(1), 30);
        check.is("then of the higher one", desk.heldBack(3), 0);
    }

    private static void offersOfSameRateByRisingBills() {
        check.sentence("Terms, Clearing", "of the same rate by rising bills");
        EarlybirdDesk desk = new EarlybirdDesk();
        for (int bill = 0; bill < 30; bill++) {
            desk.bill(0, bill % 8, 10, 1 + bill % 3);
        }
        for (int bill = 29; bill >= 0; bill--) {
            desk.approve(bill);
            desk.offer(bill, 7);
        }
        for (int count = 0; count <= 30; count++) {
            desk.setBudget(0, 10 * count);
            check.is("with a budget for " + count, desk.plan(0), (1 << count) - 1);
        }
    }

    private static void acceptedWithinBudget() {
        check.sentence("Terms, Clearing", "An offer is accepted if its price is not greater than"
                + " what is left of the budget then");
        EarlybirdDesk desk = Desks.withOffers(2);
        desk.setBudget(0, 99899);
        check.is("a cent less than the price", desk.plan(0), 0);
        desk.setBudget(0, 99900);
        check.is("as much as the price", desk.plan(0), 1);
        desk.setBudget(0, 199799);
        check.is("a cent less than both prices", desk.plan(0), 1);
        desk.setBudget(0, 199800);
        check.is("as much as both prices", desk.plan(0), 3);
    }

    private static void acceptedWithinLimit() {
        check.sentence("Terms, Clearing", "and not greater than what is left of the limit of the"
                + " supplier");
        EarlybirdDesk desk = Desks.withOffers(2);
        desk.setBudget(0, 199800);
        desk.setLimit(0, 0, 99899);
        check.is("a cent less than the price", desk.plan(0), 2);
        desk.setLimit(0, 0, 99900);
        check.is("as much as the price", desk.plan(0), 3);
        desk.setLimit(0, 1, 0);
        check.is("a limit of 0", desk.plan(0), 1);
        EarlybirdDesk nothing = Desks.paidEarly();
        nothing.bill(0, 0, 20, 10);
        nothing.note(1, 20);
        nothing.approve(1);
        nothing.offer(1, 5000);
        nothing.setLimit(0, 0, 950);
        check.is("a price of 0 with 0 left", nothing.plan(0), 2);
        nothing.setLimit(0, 0, 949);
        check.is("a price of 0 with a cent less than 0 left", nothing.plan(0), 0);
    }

    private static void acceptedOtherwiseRefused() {
        check.sentence("Terms, Clearing", "otherwise it is refused");
        EarlybirdDesk desk = Desks.withOffers(3);
        desk.note(2, 1000);
        desk.setBudget(0, 99899);
        check.is("two refused by the budget, and then one accepted", desk.plan(0), 4);
        desk.setLimit(0, 2, 98900);
        check.is("that one refused by its limit", desk.clear(0), 0);
        check.is("nothing was paid", desk.setBudget(0, 0), 99899);
    }

    private static void leftOfLimitUpToDueDay() {
        check.sentence("Terms, Clearing", "What is left of a limit is the limit less the prices of"
                + " all bills [..] paid early and whose due day is later than today");
        EarlybirdDesk desk = Desks.offered(1000, 10, 3600);
        desk.bill(0, 0, 990, 20);
        desk.approve(1);
        desk.offer(1, 0);
        desk.setBudget(0, 990);
        desk.setLimit(0, 0, 990);
        check.is("the price counts, not the amount", desk.clear(0), 10);
        desk.setBudget(0, 990);
        check.is("paid today", desk.plan(0), 0);
        desk.pass(9);
        check.is("a day ahead of the due day", desk.plan(0), 0);
        desk.pass(1);
        check.is("on the due day", desk.plan(0), 2);
    }

    private static void leftOfLimitOfThisPair() {
        check.sentence("Terms, Clearing", "of all bills of the supplier that this buyer has paid"
                + " early");
        EarlybirdDesk desk = Desks.paidEarly();
        desk.bill(0, 0, 10, 1);
        desk.approve(1);
        desk.pass(1);
        check.is("paid, but not early", desk.left(0, 0), 10000000 - 950);
        check.is("another supplier's limit", desk.left(0, 1), 10000000);
        check.is("another buyer's limit", desk.left(1, 0), 10000000);
    }

    private static void leftOfLimitWithThoseAhead() {
        check.sentence("Terms, Clearing", "those accepted ahead in this clearing included");
        EarlybirdDesk desk = Desks.withOffers(17);
        desk.setBudget(0, 100000000);
        desk.setLimit(0, 0, 2 * 99900 - 1);
        check.is("two of the supplier are a cent too much", desk.plan(0), 0b0_1111_1110_1111_1111);
        desk.setLimit(0, 0, 2 * 99900);
        check.is("the third is too much", desk.plan(0), 0b0_1111_1111_1111_1111);
        desk.setLimit(0, 0, 3 * 99900 - 1);
        check.is("by a cent", desk.clear(0), 1600);
        check.is("the third", desk.state(16), 1);
    }

    private static void budgetLessByPrice() {
        check.sentence("Terms, Clearing", "The bill of an accepted offer is paid early: its price"
                + " is paid, and the budget is less by that.");
        EarlybirdDesk desk = Desks.withOffers(2);
        desk.setBudget(0, 99900);
        desk.clear(0);
        check.is("paid early", desk.state(0), 3);
        check.is("its price", desk.paid(0), 99900);
        check.is("no cent is left for the other", desk.plan(0), 0);
        check.is("the budget", desk.setBudget(0, 99901), 0);
        desk.clear(0);
        check.is("the budget, after the other", desk.setBudget(0, 0), 1);
    }

    private static void refusedOffersStay() {
        check.sentence("Terms, Clearing", "Offers that are refused stay.");
        EarlybirdDesk desk = Desks.withOffers(2);
        desk.setBudget(0, 99900);
        desk.setLimit(0, 0, 0);
        desk.clear(0);
        check.is("refused by its limit", desk.state(0), 1);
        desk.clear(0);
        check.is("refused again, its rate", desk.takeBack(0), 100);
        EarlybirdDesk none = Desks.withOffers(1);
        none.clear(0);
        none.pass(35);
        none.setBudget(0, 99998);
        check.is("refused by the budget, accepted later", none.clear(0), 2);
    }
}
