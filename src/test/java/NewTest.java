/** Promise 1: a new object. */
public final class NewTest {
    public static void main(String[] args) {
        Due due = new Due();
        RoundAsk x = new RoundAsk();
        due.is("many(0)", 0, x.many(0));
        due.end();
    }
}
