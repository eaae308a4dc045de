/** Promise 3, sentence by sentence. */
public final class Promise03RetryTest {
    private static final Check CHECK = new Check();

    public static void main(String[] args) {
        Part part = Part.section(CHECK, "Promise 3: retry");
        part.test("The client tries an open request again", Promise03RetryTest::triesAnOpenRequestAgain);
        part.test("if REPLIES of three are kept for it that are equal", Promise03RetryTest::ofThreeThatAreEqual);
        part.test("it sends PROOF with that (place, view and digest", Promise03RetryTest::placeViewAndDigest);
        part.test("those with the lowest replica of several) to all: 2", Promise03RetryTest::theEqualOnesToAll);
        part.test("otherwise it asks all for it: 1", Promise03RetryTest::otherwiseItAsksAll);
        part.test("otherwise it asks all for it: 1", Promise03RetryTest::unequalOnesAreNotEnough);
        part.test("0 when it is done", Promise03RetryTest::zeroWhenItIsDone);
        part.test("NoSuchElementException: there is none such", Promise03RetryTest::thereIsNoneSuch);
        part.end();
        CHECK.end();
    }

    private static void triesAnOpenRequestAgain() {
        SpecOrder x = Scene.issued(-1, 2);
        x.lose(1);
        CHECK.due("request 1, whose question was lost", x.retry(1), 1);
        x.flood(2);
        CHECK.dueAll("request 1", Scene.request(x, 1), 2, 1, 1, 4, 0);
        CHECK.dueAll("request 0 is as it was", Scene.request(x, 0), 1, 0, 0, 0, 0);
    }

    private static void ofThreeThatAreEqual() {
        // 1, 2 and 3 are the orders, 4 .. 7 the replies
        SpecOrder x = Scene.issued(-1, 1);
        for (int i = 0; i < 4; i++) {
            x.deliver(i);
        }
        x.deliver(4);
        x.deliver(6);
        CHECK.due("two", x.retry(0), 1);
        x.deliver(7);
        CHECK.due("three", x.retry(0), 2);
        CHECK.due("a proof was sent", x.request(0, 4), 1);
        CHECK.due("and again", x.retry(0), 2);
    }

    private static void placeViewAndDigest() {
        SpecOrder x = Scene.flooded(3, 2);
        int first = x.messages();
        x.retry(0);
        x.retry(1);
        CHECK.dueAll("for request 0", Scene.message(x, first), 3, 4, 0, 0, -1, 1, 0);
        CHECK.dueAll("for request 1", Scene.message(x, first + 4), 3, 4, 0, 0, -1, 2, 0);
        x.deliver(first);
        CHECK.due("the digest is that of place 1, so FIXED", x.replica(0, 2), 1);
        x.deliver(first + 5);
        CHECK.due("the digest is that of place 2, so FIXED", x.replica(1, 2), 2);
        x.issue(Scene.ADD, 1, 1);
        Scene.loseAll(x, first);
        Scene.wantAt(x, 1, 2);
        Scene.wantAt(x, 2, 2);
        Scene.changeView(x, 1, 2);
        CHECK.due("in view 1", x.retry(0), 2);
        CHECK.dueAll("for request 0", Scene.lastMessage(x), 3, 4, 3, 1, -1, 1, 0);
    }

    private static void theEqualOnesToAll() {
        SpecOrder x = Scene.underALiar(2);
        Scene.lies(x, 1, 1, 0);
        Scene.lies(x, 2, 0);
        Scene.lies(x, 3, 0);
        x.flood(2);
        x.echo(2, 0);
        int first = x.messages();
        CHECK.due("0, 2 and 3 are equal, 1 is not", x.retry(0), 2);
        for (int i = 0; i < 4; i++) {
            CHECK.dueAll("to " + i, Scene.message(x, first + i), 3, 4, i, 0, -1, 1, 0);
        }
        CHECK.due("messages", x.messages(), first + 4);
        x.flood(first);
        CHECK.due("FIXED of 1, which has another row", x.replica(1, 2), 0);
        CHECK.due("FIXED of 2", x.replica(2, 2), 1);
    }

    private static void otherwiseItAsksAll() {
        SpecOrder x = Scene.issued(-1, 2);
        CHECK.due("no reply", x.retry(1), 1);
        for (int i = 0; i < 4; i++) {
            CHECK.dueAll("to " + i, Scene.message(x, 2 + i), 0, 4, i, 0, 1, 0, 0);
        }
        CHECK.due("messages", x.messages(), 6);
        CHECK.due("no proof was sent", x.request(1, 4), 0);
        CHECK.due("and again", x.retry(1), 1);
        CHECK.due("messages", x.messages(), 10);
    }

    private static void unequalOnesAreNotEnough() {
        SpecOrder x = Scene.underALiar(2);
        Scene.lies(x, 1, 0);
        Scene.lies(x, 2, 0);
        Scene.lies(x, 3, 1, 0);
        x.flood(2);
        CHECK.due("replies", x.request(0, 3), 3);
        CHECK.due("two and one", x.retry(0), 1);
        x.echo(3, 0);
        CHECK.due("replies", x.request(0, 3), 4);
        CHECK.due("two and two", x.retry(0), 1);
        CHECK.due("no proof was sent", x.request(0, 4), 0);
    }

    private static void zeroWhenItIsDone() {
        SpecOrder x = Scene.flooded(-1, 1);
        int[] before = Scene.state(x, 1);
        CHECK.due("done by four", x.retry(0), 0);
        CHECK.dueAll("what it leaves", Scene.state(x, 1), before);
        SpecOrder y = Scene.flooded(2, 1);
        y.retry(0);
        y.flood(0);
        int messages = y.messages();
        CHECK.due("done by a proof", y.retry(0), 0);
        CHECK.due("messages", y.messages(), messages);
    }

    private static void thereIsNoneSuch() {
        SpecOrder x = new SpecOrder(-1);
        CHECK.dueThrow("retry(0) of a new object", Check.ELEMENT, () -> x.retry(0));
        x.issue(Scene.SET, 0, 1);
        int[] before = Scene.state(x, 1);
        for (int wrong : new int[] {Integer.MIN_VALUE, -1, 1, 11, 12, Integer.MAX_VALUE}) {
            CHECK.dueThrow("retry(" + wrong + ")", Check.ELEMENT, () -> x.retry(wrong));
        }
        CHECK.dueAll("what a refused call leaves", Scene.state(x, 1), before);
        SpecOrder y = Scene.issued(-1, 12);
        CHECK.due("retry(11)", y.retry(11), 1);
        CHECK.dueThrow("retry(12)", Check.ELEMENT, () -> y.retry(12));
    }
}
