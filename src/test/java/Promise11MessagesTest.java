/** Promise 11. */
public final class Promise11MessagesTest {
    private static final Check CHECK = new Check();

    public static void main(String[] args) {
        Part part = Part.section(CHECK, "Promise 11: messages");
        part.test("How many messages were sent", Promise11MessagesTest::noneAtFirst);
        part.test("How many messages were sent", Promise11MessagesTest::deliveredAndLostOnesToo);
        part.test("How many messages were sent", Promise11MessagesTest::sixHundredAtMost);
        part.end();
        CHECK.end();
    }

    private static void noneAtFirst() {
        CHECK.due("messages()", new SpecOrder(0).messages(), 0);
    }

    private static void deliveredAndLostOnesToo() {
        SpecOrder x = Scene.issued(-1, 1);
        CHECK.due("one is under way", x.messages(), 1);
        x.deliver(0);
        CHECK.due("one was delivered, four are under way", x.messages(), 5);
        x.lose(1);
        CHECK.due("one is lost", x.messages(), 5);
        x.patience(1);
        CHECK.due("what means nothing sends nothing", x.messages(), 5);
    }

    private static void sixHundredAtMost() {
        SpecOrder x = Scene.issued(-1, 1);
        for (int i = 1; i <= 149; i++) {
            x.retry(0);
            CHECK.due("after " + i, x.messages(), 1 + 4 * i);
        }
        x.retry(0);
        CHECK.due("three of four were sent", x.messages(), 600);
        x.retry(0);
        CHECK.due("none of four was sent", x.messages(), 600);
        x.flood(0);
        CHECK.due("nor was what they bring about", x.messages(), 600);
    }
}
