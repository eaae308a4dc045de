/** Promise 13, sentence by sentence. */
public final class Promise13RequestTest {
    private static final Check CHECK = new Check();

    public static void main(String[] args) {
        Part part = Part.section(CHECK, "Promise 13: request");
        part.test("Of a request: 0 1 if it is open, 2 if it is done", Promise13RequestTest::openOrDone);
        part.test("1 its result, 2 its place", Promise13RequestTest::resultAndPlace);
        part.test("(both 0 as long as it is open)", Promise13RequestTest::bothZeroAsLongAsItIsOpen);
        part.test("3 from how many replicas a REPLY for it is kept", Promise13RequestTest::fromHowManyReplicas);
        part.test("4 1 if a PROOF was sent for it", Promise13RequestTest::oneIfAProofWasSent);
        part.test("NoSuchElementException: there is none such", Promise13RequestTest::thereIsNoneSuch);
        part.test("or no such what", Promise13RequestTest::noSuchWhat);
        part.end();
        CHECK.end();
    }

    private static void openOrDone() {
        SpecOrder x = Scene.issued(-1, 1);
        CHECK.due("at first", x.request(0, 0), 1);
        for (int i = 0; i < 7; i++) {
            x.deliver(i);
            CHECK.due("after message " + i, x.request(0, 0), 1);
        }
        x.deliver(7);
        CHECK.due("after the fourth reply", x.request(0, 0), 2);
        x.retry(0);
        CHECK.due("it stays so", x.request(0, 0), 2);
    }

    private static void resultAndPlace() {
        SpecOrder x = new SpecOrder(-1);
        x.issue(Scene.ADD, 2, 40);
        x.issue(Scene.ADD, 2, 2);
        x.deliver(1);
        x.flood(0);
        CHECK.dueAll("request 1 came first", Scene.request(x, 1), 2, 2, 1, 4, 0);
        CHECK.dueAll("request 0", Scene.request(x, 0), 2, 42, 2, 4, 0);
        SpecOrder y = Scene.flooded(-1, 12);
        CHECK.due("the greatest place", y.request(11, 2), 12);
    }

    private static void bothZeroAsLongAsItIsOpen() {
        SpecOrder x = Scene.flooded(3, 1);
        CHECK.dueAll("three replies", Scene.request(x, 0), 1, 0, 0, 3, 0);
        x.retry(0);
        CHECK.dueAll("a proof", Scene.request(x, 0), 1, 0, 0, 3, 1);
        int ack = x.messages();
        x.flood(ack - 4);
        CHECK.dueAll("three acks", Scene.request(x, 0), 2, 1, 1, 3, 1);
    }

    private static void fromHowManyReplicas() {
        SpecOrder x = Scene.issued(-1, 2);
        x.retry(0);
        CHECK.due("at first", x.request(0, 3), 0);
        x.deliver(0);
        // 6, 7, 8 are the orders, 9 is the reply of 0
        x.deliver(9);
        CHECK.due("one", x.request(0, 3), 1);
        x.deliver(2);
        CHECK.dueAll("0 replies again", Scene.message(x, 10), 2, 0, 4, 0, 0, 1, 0);
        x.deliver(10);
        CHECK.due("twice from the same one", x.request(0, 3), 1);
        for (int i = 6; i < 9; i++) {
            x.deliver(i);
            x.deliver(x.messages() - 1);
            CHECK.due("and from one more", x.request(0, 3), i - 4);
        }
        CHECK.due("for the other request", x.request(1, 3), 0);
    }

    private static void oneIfAProofWasSent() {
        SpecOrder x = Scene.flooded(3, 2);
        CHECK.due("at first", x.request(0, 4), 0);
        x.retry(0);
        CHECK.due("after it was sent", x.request(0, 4), 1);
        CHECK.due("of another", x.request(1, 4), 0);
        x.flood(0);
        CHECK.due("when it is done", x.request(0, 4), 1);
        SpecOrder y = Scene.issued(-1, 1);
        y.retry(0);
        CHECK.due("questions are none", y.request(0, 4), 0);
        y.flood(0);
        CHECK.due("done without one", y.request(0, 4), 0);
    }

    private static void thereIsNoneSuch() {
        SpecOrder x = new SpecOrder(-1);
        CHECK.dueThrow("of a new object", Check.ELEMENT, () -> x.request(0, 0));
        x.issue(Scene.SET, 0, 1);
        for (int wrong : new int[] {Integer.MIN_VALUE, -1, 1, 11, 12, Integer.MAX_VALUE}) {
            for (int what : new int[] {0, 4, 5}) {
                CHECK.dueThrow("request(" + wrong + ", " + what + ")", Check.ELEMENT, () -> x.request(wrong, what));
            }
        }
        SpecOrder y = Scene.issued(-1, 12);
        CHECK.due("the last of all", y.request(11, 0), 1);
        CHECK.dueThrow("request 12", Check.ELEMENT, () -> y.request(12, 0));
    }

    private static void noSuchWhat() {
        SpecOrder x = Scene.issued(-1, 1);
        for (int wrong : new int[] {Integer.MIN_VALUE, -1, 5, 6, 10, Integer.MAX_VALUE}) {
            CHECK.dueThrow("request(0, " + wrong + ")", Check.ELEMENT, () -> x.request(0, wrong));
        }
        CHECK.due("request(0, 4)", x.request(0, 4), 0);
    }
}
