/** The calls that README.md shows answer as it says. */
public final class ReadmeTest {
    public static void main(String[] args) {
        Check check = new Check();
        check.test(() -> example(check));
        check.end();
    }

    private static void example(Check check) {
        EarlybirdDesk desk = new EarlybirdDesk();
        check.is("setBudget", desk.setBudget(0, 10000), 0);
        int bill = desk.bill(0, 3, 5000, 60);
        check.is("bill", bill, 0);
        check.is("approve", desk.approve(bill), false);
        check.is("offer", desk.offer(bill, 600), 4950);
        check.is("clear", desk.clear(0), 50);
        check.is("state", desk.state(bill), 3);
        check.is("note", desk.note(bill, 1000), 990);
        check.is("claim", desk.claim(0, 3), 990);
        check.is("pass", desk.pass(60), 0);
    }
}
