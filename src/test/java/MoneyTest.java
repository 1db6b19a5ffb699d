/** Promises 1 to 3 and 17 to 21: a new object, budgets, limits, money and days. */
public final class MoneyTest {
    private static final Check check = new Check();

    public static void main(String[] args) {
        promise1NewObject();
        promise2SetBudget();
        promise3SetLimit();
        promise17Left();
        promise17LeftUpToTheDueDay();
        promise18Claim();
        promise19AverageDiscount();
        promise19AsFloats();
        promise20Pass();
        promise20PassInOrder();
        promise21Today();
        check.end();
    }

    private static void promise1NewObject() {
        EarlybirdDesk desk = new EarlybirdDesk();
        check.is("today", desk.today(), 0);
        check.noSuch("bill 0", EarlybirdDesk::new, d -> d.state(0));
        for (int buyer = 0; buyer < 4; buyer++) {
            check.is("budget of buyer " + buyer, desk.setBudget(buyer, 5), 0);
            for (int supplier = 0; supplier < 8; supplier++) {
                String pair = " of buyer " + buyer + " for supplier " + supplier;
                check.is("claim" + pair, desk.claim(buyer, supplier), 0);
                check.is("left" + pair, desk.left(buyer, supplier), 10000000);
                check.is("limit" + pair, desk.setLimit(buyer, supplier, 5), 10000000);
            }
        }
        check.is("nothing is shared by objects", new EarlybirdDesk().setBudget(0, 0), 0);
    }

    private static void promise2SetBudget() {
        EarlybirdDesk desk = new EarlybirdDesk();
        check.is("the first", desk.setBudget(3, 100000000), 0);
        check.is("the greatest", desk.setBudget(3, 0), 100000000);
        check.is("the least", desk.setBudget(3, 7), 0);
        check.is("of another buyer", desk.setBudget(2, 7), 0);
        EarlybirdDesk cleared = Desks.offered(1000, 360, 500);
        cleared.setBudget(0, 1000);
        cleared.clear(0);
        check.is("what was left of it", cleared.setBudget(0, 1), 50);
        EarlybirdDesk due = Desks.approved(1000, 1);
        due.setBudget(0, 1000);
        due.pass(1);
        check.is("payments on the due day are not of the budget", due.setBudget(0, 1), 1000);
        check.noSuch("setBudget(4, 0)", EarlybirdDesk::new, d -> d.setBudget(4, 0));
        check.noSuch("setBudget(-1, -1)", EarlybirdDesk::new, d -> d.setBudget(-1, -1));
        check.outOfRange("budget -1", EarlybirdDesk::new, d -> d.setBudget(0, -1));
        check.outOfRange("budget 100000001", EarlybirdDesk::new, d -> d.setBudget(0, 100000001));
    }

    private static void promise3SetLimit() {
        EarlybirdDesk desk = new EarlybirdDesk();
        check.is("the first", desk.setLimit(3, 7, 100000000), 10000000);
        check.is("the greatest", desk.setLimit(3, 7, 0), 100000000);
        check.is("the least", desk.setLimit(3, 7, 7), 0);
        check.is("for another supplier", desk.setLimit(3, 6, 7), 10000000);
        check.is("of another buyer", desk.setLimit(2, 7, 7), 10000000);
        EarlybirdDesk early = Desks.paidEarly();
        check.is("the limit, not what is left of it", early.setLimit(0, 0, 1), 10000000);
        check.noSuch("setLimit(4, 0, 0)", EarlybirdDesk::new, d -> d.setLimit(4, 0, 0));
        check.noSuch("setLimit(-1, 0, 0)", EarlybirdDesk::new, d -> d.setLimit(-1, 0, 0));
        check.noSuch("setLimit(0, 8, 0)", EarlybirdDesk::new, d -> d.setLimit(0, 8, 0));
        check.noSuch("setLimit(1, -1, -1)", EarlybirdDesk::new, d -> d.setLimit(1, -1, -1));
        check.outOfRange("limit -1", EarlybirdDesk::new, d -> d.setLimit(0, 0, -1));
        check.outOfRange("limit 100000001", EarlybirdDesk::new, d -> d.setLimit(0, 0, 100000001));
    }

    private static void promise17Left() {
        EarlybirdDesk desk = Desks.paidEarly();
        check.is("less the price", desk.left(0, 0), 10000000 - 950);
        check.is("for another supplier", desk.left(0, 1), 10000000);
        check.is("of another buyer", desk.left(1, 0), 10000000);
        desk.setLimit(0, 0, 950);
        check.is("nothing left", desk.left(0, 0), 0);
        desk.setLimit(0, 0, 0);
        check.is("below 0", desk.left(0, 0), -950);
        desk.note(0, 1000);
        check.is("notes change nothing of it", desk.left(0, 0), -950);
        check.noSuch("left(4, 0)", Desks::paidEarly, d -> d.left(4, 0));
        check.noSuch("left(-1, 0)", Desks::paidEarly, d -> d.left(-1, 0));
        check.noSuch("left(0, 8)", Desks::paidEarly, d -> d.left(0, 8));
        check.noSuch("left(1, -1)", Desks::paidEarly, d -> d.left(1, -1));
    }

    private static void promise17LeftUpToTheDueDay() {
        EarlybirdDesk desk = Desks.paidEarly();
        desk.pass(358);
        check.is("a day ahead of the due day", desk.left(0, 0), 10000000 - 950);
        desk.pass(1);
        check.is("on the due day", desk.left(0, 0), 10000000);
        check.is("bills paid when due don't count", Desks.paidWhenDue().left(0, 0), 10000000);
        check.is("nor offers", Desks.offered(1000, 10, 5).left(0, 0), 10000000);
    }

    private static void promise18Claim() {
        EarlybirdDesk desk = Desks.withClaim(300);
        check.is("by a note", desk.claim(0, 0), 300);
        desk.note(0, 200);
        check.is("by two notes", desk.claim(0, 0), 500);
        check.is("against another supplier", desk.claim(0, 1), 0);
        check.is("of another buyer", desk.claim(1, 0), 0);
        desk.bill(0, 0, 400, 1);
        desk.approve(1);
        check.is("as long as nothing is paid", desk.claim(0, 0), 500);
        desk.pass(1);
        check.is("less by what is held back", desk.claim(0, 0), 100);
        check.noSuch("claim(4, 0)", EarlybirdDesk::new, d -> d.claim(4, 0));
        check.noSuch("claim(-1, 0)", EarlybirdDesk::new, d -> d.claim(-1, 0));
        check.noSuch("claim(0, 8)", EarlybirdDesk::new, d -> d.claim(0, 8));
        check.noSuch("claim(1, -1)", EarlybirdDesk::new, d -> d.claim(1, -1));
    }

    private static void promise19AverageDiscount() {
        EarlybirdDesk desk = Desks.paidEarly();
        check.is("50 of 1000", desk.averageDiscount(0), 50f / 1000f);
        desk.note(0, 600);
        check.is("whatever is noted later", desk.averageDiscount(0), 50f / 1000f);
        desk.bill(0, 5, 2100, 360);
        desk.note(1, 100);
        desk.approve(1);
        desk.offer(1, 5000);
        desk.setBudget(0, 2000);
        desk.clear(0);
        check.is("1050 of 3000", desk.averageDiscount(0), 1050f / 3000f);
        desk.bill(0, 5, 77, 1);
        desk.approve(2);
        desk.pass(400);
        check.is("bills paid when due don't count", desk.averageDiscount(0), 1050f / 3000f);
        check.notNow("of another buyer", Desks::paidEarly, d -> d.averageDiscount(1));
        check.notNow("nothing paid early", Desks::paidWhenDue, d -> d.averageDiscount(0));
        check.notNow("only an amount of 0", () -> {
            EarlybirdDesk nothing = Desks.ofAmountNothing();
            nothing.approve(0);
            nothing.offer(0, 7);
            nothing.clear(0);
            return nothing;
        }, d -> d.averageDiscount(0));
        check.noSuch("averageDiscount(4)", Desks::paidEarly, d -> d.averageDiscount(4));
        check.noSuch("averageDiscount(-1)", Desks::paidEarly, d -> d.averageDiscount(-1));
        EarlybirdDesk zero = Desks.offered(1000, 10, 0);
        zero.setBudget(0, 1000);
        zero.clear(0);
        check.is("without discount", zero.averageDiscount(0), 0f);
    }

    /** Sums above 2 to the 24th are no floats of their own, and two floats divide as floats. */
    private static void promise19AsFloats() {
        EarlybirdDesk desk = new EarlybirdDesk();
        int discounts = 0;
        for (int bill = 0; bill < 30; bill++) {
            desk.bill(0, bill % 8, 999999 - bill, 359);
            desk.approve(bill);
            discounts += 999999 - bill - desk.offer(bill, 4999);
        }
        desk.setBudget(0, 100000000);
        check.is("all are accepted", desk.clear(0), discounts);
        int amounts = 30 * 999999 - 29 * 15;
        check.is("the floats' quotient", desk.averageDiscount(0), (float) discounts / (float) amounts);
    }

    private static void promise20Pass() {
        EarlybirdDesk desk = new EarlybirdDesk();
        for (int bill = 0; bill < 6; bill++) {
            desk.bill(bill % 4, bill, 100 + bill, 10 + bill);
        }
        for (int bill = 0; bill < 5; bill++) {
            desk.approve(bill);
        }
        desk.dispute(1);
        check.is("a day ahead of the first due day", desk.pass(9), 0);
        check.is("the first due day", desk.pass(1), 1);
        check.is("it is paid", desk.state(0), 4);
        check.is("by its amount", desk.paid(0), 100);
        check.is("disputed on its due day", desk.pass(1), 0);
        check.is("the next is not paid yet", desk.state(2), 1);
        check.is("some due days, an open bill among them", desk.pass(400), 3);
        check.is("the open bill", desk.state(5), 0);
        check.is("paid once only", desk.pass(400), 0);
        EarlybirdDesk nothing = Desks.ofAmountNothing();
        nothing.approve(0);
        check.is("a bill of amount 0 is paid too", nothing.pass(10), 1);
        check.is("its state", nothing.state(0), 4);
        check.is("bills paid early are not paid again", Desks.paidEarly().pass(400), 0);
        check.outOfRange("days 0", () -> Desks.approved(1000, 1), d -> d.pass(0));
        check.outOfRange("days -1", () -> Desks.approved(1000, 1), d -> d.pass(-1));
        check.outOfRange("days 401", () -> Desks.approved(1000, 1), d -> d.pass(401));
    }

    private static void promise20PassInOrder() {
        EarlybirdDesk desk = Desks.withClaim(700);
        int[] days = {3, 2, 2};
        for (int bill = 1; bill <= 3; bill++) {
            desk.bill(0, 0, 500, days[bill - 1]);
        }
        desk.approve(3);
        desk.approve(2);
        desk.approve(1);
        check.is("paid by that", desk.pass(5), 3);
        check.is("the lower number of the earlier day first", desk.heldBack(2), 500);
        check.is("the other one of that day then", desk.heldBack(3), 200);
        check.is("the later day last", desk.heldBack(1), 0);
    }

    private static void promise21Today() {
        EarlybirdDesk desk = new EarlybirdDesk();
        desk.pass(1);
        check.is("a day", desk.today(), 1);
        desk.pass(400);
        check.is("and 400 days", desk.today(), 401);
        desk.bill(0, 0, 5, 5);
        check.is("other calls take no time", desk.today(), 401);
        check.outOfRange("days out of range", EarlybirdDesk::new, d -> d.pass(401));
    }
}
