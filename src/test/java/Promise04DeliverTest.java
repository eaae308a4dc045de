/** Promise 4, sentence by sentence; what the receiver does with each kind is in the tests of the Terms. */
public final class Promise04DeliverTest {
    private static final Check CHECK = new Check();

    public static void main(String[] args) {
        Part part = Part.section(CHECK, "Promise 4: deliver");
        part.test("A message is delivered: true", Promise04DeliverTest::aMessageIsDelivered);
        part.test("false when there is none such", Promise04DeliverTest::thereIsNoneSuch);
        part.test("or it was delivered", Promise04DeliverTest::itWasDelivered);
        part.test("or lost", Promise04DeliverTest::itWasLost);
        part.test("(One to the faulty replica is gone.)", Promise04DeliverTest::oneToTheFaultyReplicaIsGone);
        part.end();
        CHECK.end();
    }

    private static void aMessageIsDelivered() {
        SpecOrder x = Scene.issued(-1, 1);
        CHECK.due("deliver(0)", x.deliver(0), true);
        CHECK.due("its state", x.message(0, 6), 1);
        CHECK.due("row of 0", x.replica(0, 1), 1);
        CHECK.due("what was sent is under way", x.message(1, 6), 0);
        CHECK.due("row of 1", x.replica(1, 1), 0);
        CHECK.due("the last one, to the client", x.deliver(4), true);
        CHECK.due("replies", x.request(0, 3), 1);
        CHECK.due("one in the midst", x.deliver(2), true);
        CHECK.due("row of 2", x.replica(2, 1), 1);
    }

    private static void thereIsNoneSuch() {
        SpecOrder x = new SpecOrder(-1);
        CHECK.due("deliver(0) of a new object", x.deliver(0), false);
        x.issue(Scene.SET, 0, 1);
        int[] before = Scene.state(x, 1);
        for (int none : new int[] {Integer.MIN_VALUE, -1, 1, 2, 599, 600, 601, Integer.MAX_VALUE}) {
            CHECK.due("deliver(" + none + ")", x.deliver(none), false);
        }
        CHECK.dueAll("what that leaves", Scene.state(x, 1), before);
    }

    private static void itWasDelivered() {
        SpecOrder x = Scene.issued(-1, 1);
        x.deliver(0);
        int[] before = Scene.state(x, 1);
        CHECK.due("deliver(0) again", x.deliver(0), false);
        CHECK.due("and again", x.deliver(0), false);
        CHECK.dueAll("what that leaves", Scene.state(x, 1), before);
    }

    private static void itWasLost() {
        SpecOrder x = Scene.issued(-1, 1);
        x.lose(0);
        CHECK.due("deliver(0)", x.deliver(0), false);
        CHECK.due("it stays lost", x.message(0, 6), 2);
        CHECK.due("row of 0", x.replica(0, 1), 0);
        CHECK.due("messages", x.messages(), 1);
    }

    private static void oneToTheFaultyReplicaIsGone() {
        SpecOrder x = Scene.issued(0, 1);
        x.retry(0);
        CHECK.due("a question to it", x.deliver(0), true);
        CHECK.due("its state", x.message(0, 6), 1);
        CHECK.due("no second time", x.deliver(0), false);
        CHECK.due("nothing comes of it", x.messages(), 5);
        CHECK.dueAll("the faulty one", Scene.replica(x, 0), 0, 0, 0, 0, 0, 0, 7);
        CHECK.due("another question to it", x.deliver(1), true);
        CHECK.due("nothing comes of it", x.messages(), 5);
    }
}
