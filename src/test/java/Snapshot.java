/**
 * All that can be learned of a desk, as a text. It uses the object up (budgets, limits and offers
 * are read by changing them), with at most some 400 calls.
 */
final class Snapshot {
    private Snapshot() {
    }

    static String of(EarlybirdDesk desk) {
        StringBuilder text = new StringBuilder();
        int bills = addBills(desk, text);
        for (int buyer = 0; buyer < 4; buyer++) {
            addBuyer(desk, buyer, text);
        }
        addOffersAndNotes(desk, bills, text);
        text.append("\nday ").append(desk.today()).append(", on which ").append(desk.pass(360));
        return text.toString();
    }

    private static int addBills(EarlybirdDesk desk, StringBuilder text) {
        for (int bill = 0; ; bill++) {
            try {
                text.append("\nbill ").append(bill).append(": ").append(desk.state(bill));
            } catch (IndexOutOfBoundsException e) {
                return bill;
            }
            text.append(' ').append(desk.amount(bill)).append(' ').append(desk.paid(bill));
            text.append(' ').append(desk.heldBack(bill));
        }
    }

    private static void addBuyer(EarlybirdDesk desk, int buyer, StringBuilder text) {
        text.append("\nbuyer ").append(buyer).append(": plan ").append(desk.plan(buyer));
        for (int supplier = 0; supplier < 8; supplier++) {
            text.append(", ").append(desk.left(buyer, supplier));
            text.append(' ').append(desk.claim(buyer, supplier));
            text.append(' ').append(desk.setLimit(buyer, supplier, 0));
        }
        text.append(", budget ").append(desk.setBudget(buyer, 0)).append(", average ");
        try {
            text.append(desk.averageDiscount(buyer));
        } catch (IllegalStateException e) {
            text.append("none");
        }
    }

    private static void addOffersAndNotes(EarlybirdDesk desk, int bills, StringBuilder text) {
        for (int bill = 0; bill < bills; bill++) {
            text.append("\nbill ").append(bill).append(": ");
            try {
                text.append(desk.takeBack(bill));
            } catch (IllegalStateException e) {
                text.append("no offer");
            }
            // A note of the whole amount tells whether there were notes since the payment.
            try {
                text.append(' ').append(desk.note(bill, Math.max(1, desk.amount(bill))));
            } catch (IllegalArgumentException e) {
                text.append(" noted");
            }
        }
    }
}
