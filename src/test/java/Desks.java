/** Desks that stand as the tests need them; what they hold is of buyer 0 and supplier 0. */
final class Desks {
    private Desks() {
    }

    static EarlybirdDesk withBills(int count) {
        EarlybirdDesk desk = new EarlybirdDesk();
        for (int bill = 0; bill < count; bill++) {
            desk.bill(0, 0, 1000 + bill, 10);
        }
        return desk;
    }

    static EarlybirdDesk approved(int amount, int days) {
        EarlybirdDesk desk = new EarlybirdDesk();
        desk.bill(0, 0, amount, days);
        desk.approve(0);
        return desk;
    }

    static EarlybirdDesk offered(int amount, int days, int rate) {
        EarlybirdDesk desk = approved(amount, days);
        desk.offer(0, rate);
        return desk;
    }

    /** Of amount 1000 and paid by 950, the budget used up, 359 days ahead of the due day. */
    static EarlybirdDesk paidEarly() {
        EarlybirdDesk desk = offered(1000, 360, 500);
        desk.setBudget(0, 950);
        desk.clear(0);
        desk.pass(1);
        return desk;
    }

    static EarlybirdDesk paidWhenDue() {
        EarlybirdDesk desk = offered(1000, 10, 500);
        desk.pass(10);
        return desk;
    }

    /** An open bill of amount 0. */
    static EarlybirdDesk ofAmountNothing() {
        EarlybirdDesk desk = new EarlybirdDesk();
        desk.bill(0, 0, 50, 10);
        desk.note(0, 50);
        return desk;
    }

    /** With a claim of up to 1000 by a note on bill 0, which is paid. */
    static EarlybirdDesk withClaim(int claim) {
        EarlybirdDesk desk = paidWhenDue();
        desk.note(0, claim);
        return desk;
    }

    /** Approved bills of amount 100000 for 36 days with offers at the rate 100, a discount of 100. */
    static EarlybirdDesk withOffers(int count) {
        EarlybirdDesk desk = new EarlybirdDesk();
        for (int bill = 0; bill < count; bill++) {
            desk.bill(0, bill % 8, 100000, 36);
            desk.approve(bill);
            desk.offer(bill, 100);
        }
        return desk;
    }

    static EarlybirdDesk disputed() {
        EarlybirdDesk desk = offered(1000, 10, 500);
        desk.dispute(0);
        return desk;
    }

    /** An open bill whose due day is today. */
    static EarlybirdDesk openOnItsDueDay() {
        EarlybirdDesk desk = withBills(1);
        desk.pass(10);
        return desk;
    }

    static EarlybirdDesk full() {
        return withBills(30);
    }

    /** Bills 0 to 4 are paid early, paid (both with notes), open, disputed, approved with an offer. */
    static EarlybirdDesk ofAllKinds() {
        EarlybirdDesk desk = paidEarly();
        desk.bill(0, 0, 600, 5);
        desk.approve(1);
        desk.pass(5);
        desk.note(0, 100);
        desk.note(1, 200);
        desk.bill(0, 0, 700, 20);
        desk.bill(0, 0, 800, 20);
        desk.dispute(3);
        desk.bill(0, 0, 900, 20);
        desk.approve(4);
        desk.offer(4, 4000);
        desk.setBudget(0, 2000);
        desk.setLimit(0, 0, 3000);
        return desk;
    }

    /** As a call that answers something. */
    static Object dispute(EarlybirdDesk desk, int bill) {
        desk.dispute(bill);
        return "disputed";
    }
}
