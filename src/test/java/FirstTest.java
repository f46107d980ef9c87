/** The plainest use: a CITY is told, one leaves, a DAY goes by. */
public final class FirstTest {
    public static void main(String[] args) {
        Due due = new Due("FirstTest");
        HillLeavers x = new HillLeavers();
        due.is("city", Due.city(x, "craft bread needs 1 loss 10; man ann of bread loaves 2 debt 5;"), 1);
        due.is("leave", x.leave(0), 1);
        due.is("day", x.day(), 10);
        due.is("out", x.out(), 1);
        due.is("day", x.day(), 10);
        due.is("out", x.out(), 0);
        due.close();
    }
}
