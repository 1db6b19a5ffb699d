/** Promises 4 to 11: bills. */
public final class BillsTest {
    private static final Check check = new Check();

    public static void main(String[] args) {
        promise4Bill();
        promise4ThirtyBills();
        promise5Approve();
        promise5PaidByApproval();
        promise6Dispute();
        promise7NoteOnUnpaid();
        promise7NoteOnPaid();
        promise7NotesRoundDownEach();
        promise8State();
        promise9Amount();
        promise10Paid();
        promise11HeldBack();
        check.end();
    }

    private static void promise4Bill() {
        EarlybirdDesk desk = new EarlybirdDesk();
        check.is("first bill", desk.bill(0, 0, 1, 1), 0);
        check.is("second bill", desk.bill(3, 7, 1000000, 360), 1);
        check.is("its state", desk.state(1), 0);
        check.is("its amount", desk.amount(1), 1000000);
        check.is("open bills are not paid on their due day", desk.pass(1), 0);
        desk.approve(1);
        check.is("a day ahead of the due day", desk.pass(358), 0);
        check.is("the due day", desk.pass(1), 1);
        Check.Setting empty = EarlybirdDesk::new;
        check.noSuch("bill(4, ..)", empty, d -> d.bill(4, 0, 1, 1));
        check.noSuch("bill(-1, ..)", empty, d -> d.bill(-1, 0, 1, 1));
        check.noSuch("bill(0, 8, ..)", empty, d -> d.bill(0, 8, 1, 1));
        check.noSuch("bill(0, -1, ..)", empty, d -> d.bill(0, -1, 1, 1));
        check.noSuch("bill with nothing in range", empty, d -> d.bill(0, 8, 0, 0));
        check.outOfRange("amount 0", empty, d -> d.bill(0, 0, 0, 1));
        check.outOfRange("amount 1000001", empty, d -> d.bill(0, 0, 1000001, 1));
        check.outOfRange("days 0", empty, d -> d.bill(0, 0, 1, 0));
        check.outOfRange("days 361", empty, d -> d.bill(0, 0, 1, 361));
    }

    private static void promise4ThirtyBills() {
        Check.Setting full = () -> Desks.withBills(30);
        check.is("bill 29 of 30", full.make().state(29), 0);
        check.notNow("bill 31", full, d -> d.bill(0, 0, 1, 1));
        check.outOfRange("bill 31 of amount 0", full, d -> d.bill(0, 0, 0, 1));
        check.noSuch("bill 31 to buyer 4", full, d -> d.bill(4, 0, 0, 1));
    }

    private static void promise5Approve() {
        EarlybirdDesk desk = Desks.withBills(2);
        check.is("approve an open bill", desk.approve(0), false);
        check.is("its state", desk.state(0), 1);
        desk.dispute(1);
        check.is("approve a disputed bill", desk.approve(1), false);
        check.is("its state", desk.state(1), 1);
        check.noSuch("approve(2)", () -> Desks.withBills(2), d -> d.approve(2));
        check.noSuch("approve(-1)", () -> Desks.withBills(2), d -> d.approve(-1));
        check.notNow("approve an approved bill", () -> Desks.approved(1000, 10), d -> d.approve(0));
        check.notNow("approve a bill paid early", Desks::paidEarly, d -> d.approve(0));
        check.notNow("approve a paid bill", Desks::paidWhenDue, d -> d.approve(0));
    }

    private static void promise5PaidByApproval() {
        for (int late = 0; late < 3; late++) {
            EarlybirdDesk desk = new EarlybirdDesk();
            desk.bill(0, 0, 700, 5);
            desk.pass(5 + late);
            check.is("not paid before it is approved", desk.state(0), 0);
            check.is("approved on the due day or later", desk.approve(0), true);
            check.is("its state", desk.state(0), 4);
            check.is("paid for it", desk.paid(0), 700);
        }
        EarlybirdDesk desk = new EarlybirdDesk();
        desk.bill(0, 0, 700, 5);
        desk.pass(4);
        check.is("approved a day ahead of the due day", desk.approve(0), false);
        desk.dispute(0);
        desk.pass(1);
        check.is("a disputed bill approved on the due day", desk.approve(0), true);
    }

    private static void promise6Dispute() {
        EarlybirdDesk desk = Desks.approved(1000, 10);
        desk.bill(0, 0, 1000, 10);
        desk.dispute(1);
        check.is("dispute an open bill", desk.state(1), 2);
        desk.offer(0, 100);
        desk.setBudget(0, 100000);
        check.is("with its offer", desk.plan(0), 1);
        desk.dispute(0);
        check.is("dispute an approved bill", desk.state(0), 2);
        desk.approve(0);
        check.is("its offer is gone", desk.plan(0), 0);
        desk.dispute(0);
        check.is("disputed bills are not paid", desk.pass(20), 0);
        check.notNow("no offer to take back", () -> {
            EarlybirdDesk one = Desks.offered(1000, 10, 100);
            one.dispute(0);
            return one;
        }, d -> d.takeBack(0));
        check.notNow("dispute a disputed bill", () -> {
            EarlybirdDesk one = Desks.withBills(1);
            one.dispute(0);
            return one;
        }, d -> disputed(d, 0));
        check.notNow("dispute a bill paid early", Desks::paidEarly, d -> disputed(d, 0));
        check.notNow("dispute a paid bill", Desks::paidWhenDue, d -> disputed(d, 0));
        check.noSuch("dispute(1)", () -> Desks.withBills(1), d -> disputed(d, 1));
        check.noSuch("dispute(-1)", () -> Desks.withBills(1), d -> disputed(d, -1));
    }

    private static Object disputed(EarlybirdDesk desk, int bill) {
        desk.dispute(bill);
        return "disputed";
    }

    private static void promise7NoteOnUnpaid() {
        EarlybirdDesk desk = new EarlybirdDesk();
        desk.bill(0, 0, 1000, 10);
        check.is("note on an open bill", desk.note(0, 1), 999);
        desk.approve(0);
        check.is("note on an approved bill", desk.note(0, 99), 900);
        desk.dispute(0);
        check.is("note on a disputed bill", desk.note(0, 400), 500);
        check.is("the amount", desk.amount(0), 500);
        check.is("no claim by that", desk.claim(0, 0), 0);
        check.is("note of all that is left", desk.note(0, 500), 0);
        Check.Setting one = () -> Desks.withBills(1);
        check.outOfRange("note of 0", one, d -> d.note(0, 0));
        check.outOfRange("note of -1", one, d -> d.note(0, -1));
        check.outOfRange("note of more than the amount", one, d -> d.note(0, d.amount(0) + 1));
        check.outOfRange("note of the greatest number", one, d -> d.note(0, Integer.MAX_VALUE));
        check.outOfRange("note on a bill of amount 0", Desks::ofAmountNothing, d -> d.note(0, 1));
        check.outOfRange("note on a paid bill of amount 0", () -> {
            EarlybirdDesk nothing = Desks.ofAmountNothing();
            nothing.approve(0);
            nothing.pass(10);
            return nothing;
        }, d -> d.note(0, 1));
        check.noSuch("note(1, 1)", one, d -> d.note(1, 1));
        check.noSuch("note(-1, 0)", one, d -> d.note(-1, 0));
    }

    private static void promise7NoteOnPaid() {
        EarlybirdDesk early = Desks.paidEarly();
        check.is("note on a bill paid early", early.note(0, 300), 285);
        check.is("the amount stays", early.amount(0), 1000);
        check.is("what was paid stays", early.paid(0), 950);
        check.is("the claim", early.claim(0, 0), 285);
        check.is("all the rest", early.note(0, 700), 665);
        check.is("the claim", early.claim(0, 0), 950);
        check.outOfRange("notes of more than the amount together", () -> {
            EarlybirdDesk desk = Desks.paidEarly();
            desk.note(0, 300);
            return desk;
        }, d -> d.note(0, 701));
        check.outOfRange("note of 0 on a paid bill", Desks::paidEarly, d -> d.note(0, 0));
        EarlybirdDesk due = Desks.paidWhenDue();
        check.is("note on a bill paid when due", due.note(0, 300), 300);
        EarlybirdDesk made = new EarlybirdDesk();
        made.bill(0, 0, 1000, 10);
        made.note(0, 400);
        made.approve(0);
        made.pass(10);
        check.is("notes ahead of the payment don't count", made.note(0, 600), 600);
    }

    private static void promise7NotesRoundDownEach() {
        EarlybirdDesk desk = Desks.paidEarly();
        for (int i = 0; i < 10; i++) {
            check.is("19 * 950 / 1000, rounded down", desk.note(0, 19), 18);
        }
        check.is("the claim", desk.claim(0, 0), 180);
        EarlybirdDesk great = Desks.offered(1000000, 1, 5000);
        great.setBudget(0, 1000000);
        great.clear(0);
        check.is("paid", great.paid(0), 998612);
        check.is("a great note", great.note(0, 999999), 998611);
        check.is("the last cent", great.note(0, 1), 0);
        EarlybirdDesk least = Desks.approved(1, 1);
        least.pass(1);
        check.is("of the least amount", least.note(0, 1), 1);
    }

    private static void promise8State() {
        EarlybirdDesk desk = Desks.withBills(1);
        check.is("open", desk.state(0), 0);
        desk.approve(0);
        check.is("approved", desk.state(0), 1);
        desk.dispute(0);
        check.is("disputed", desk.state(0), 2);
        EarlybirdDesk early = Desks.paidEarly();
        check.is("paid early", early.state(0), 3);
        early.pass(400);
        check.is("paid early, after the due day", early.state(0), 3);
        check.is("paid", Desks.paidWhenDue().state(0), 4);
        check.noSuch("state(1)", () -> Desks.withBills(1), d -> d.state(1));
        check.noSuch("state(-1)", () -> Desks.withBills(1), d -> d.state(-1));
        check.noSuch("state(30)", () -> Desks.withBills(30), d -> d.state(30));
        check.noSuch("state of the least number", EarlybirdDesk::new, d -> d.state(Integer.MIN_VALUE));
    }

    private static void promise9Amount() {
        EarlybirdDesk desk = Desks.paidEarly();
        check.is("amount of a bill paid early", desk.amount(0), 1000);
        desk.bill(0, 0, 77, 3);
        desk.note(1, 7);
        check.is("amount after a note", desk.amount(1), 70);
        check.noSuch("amount(1)", Desks::paidEarly, d -> d.amount(1));
        check.noSuch("amount(-1)", Desks::paidEarly, d -> d.amount(-1));
    }

    private static void promise10Paid() {
        check.is("paid for an open bill", Desks.withBills(1).paid(0), 0);
        check.is("paid for an approved bill", Desks.offered(1000, 10, 100).paid(0), 0);
        check.is("paid early", Desks.paidEarly().paid(0), 950);
        check.is("paid when due", Desks.paidWhenDue().paid(0), 1000);
        EarlybirdDesk desk = Desks.withClaim(300);
        desk.bill(0, 0, 500, 1);
        desk.approve(1);
        desk.pass(1);
        check.is("paid, whatever was held back", desk.paid(1), 500);
        check.noSuch("paid(1)", Desks::paidEarly, d -> d.paid(1));
        check.noSuch("paid(-1)", Desks::paidEarly, d -> d.paid(-1));
    }

    private static void promise11HeldBack() {
        check.is("held back of an open bill", Desks.withBills(1).heldBack(0), 0);
        EarlybirdDesk desk = Desks.withClaim(700);
        desk.bill(0, 0, 500, 1);
        desk.bill(0, 0, 500, 1);
        desk.bill(0, 1, 500, 1);
        desk.bill(1, 0, 500, 1);
        for (int bill = 1; bill <= 4; bill++) {
            desk.approve(bill);
        }
        check.is("held back of an approved bill", desk.heldBack(1), 0);
        check.is("four bills are due", desk.pass(1), 4);
        check.is("held back of the lowest number first", desk.heldBack(1), 500);
        check.is("then what is left of the claim", desk.heldBack(2), 200);
        check.is("not of another supplier", desk.heldBack(3), 0);
        check.is("not by another buyer", desk.heldBack(4), 0);
        check.is("no claim is left", desk.claim(0, 0), 0);
        EarlybirdDesk late = Desks.withClaim(300);
        late.bill(0, 0, 500, 1);
        late.pass(1);
        late.approve(1);
        check.is("held back of a bill paid by its approval", late.heldBack(1), 300);
        check.noSuch("heldBack(1)", Desks::paidEarly, d -> d.heldBack(1));
        check.noSuch("heldBack(-1)", Desks::paidEarly, d -> d.heldBack(-1));
    }
}
