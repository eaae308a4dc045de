/** Promise 6, sentence by sentence. */
public final class Promise06LoseTest {
    private static final Check CHECK = new Check();

    public static void main(String[] args) {
        Part part = Part.section(CHECK, "Promise 6: lose");
        part.test("A message is lost: true", Promise06LoseTest::aMessageIsLost);
        part.test("false as with deliver()", Promise06LoseTest::falseWhenThereIsNoneSuch);
        part.test("false as with deliver()", Promise06LoseTest::falseWhenItWasDelivered);
        part.test("false as with deliver()", Promise06LoseTest::falseWhenItWasLost);
        part.end();
        CHECK.end();
    }

    private static void aMessageIsLost() {
        SpecOrder x = Scene.issued(2, 1);
        CHECK.due("lose(0)", x.lose(0), true);
        CHECK.due("its state", x.message(0, 6), 2);
        CHECK.due("it still counts", x.messages(), 1);
        CHECK.due("nothing is under way", x.flood(0), 0);
        CHECK.due("row of 0", x.replica(0, 1), 0);
        x.retry(0);
        CHECK.due("one to the faulty replica", x.lose(3), true);
        CHECK.due("its state", x.message(3, 6), 2);
        CHECK.due("the last one", x.lose(4), true);
        CHECK.due("another is under way", x.message(1, 6), 0);
    }

    private static void falseWhenThereIsNoneSuch() {
        SpecOrder x = new SpecOrder(-1);
        CHECK.due("lose(0) of a new object", x.lose(0), false);
        x.issue(Scene.SET, 0, 1);
        int[] before = Scene.state(x, 1);
        for (int none : new int[] {Integer.MIN_VALUE, -1, 1, 2, 599, 600, 601, Integer.MAX_VALUE}) {
            CHECK.due("lose(" + none + ")", x.lose(none), false);
        }
        CHECK.dueAll("what that leaves", Scene.state(x, 1), before);
    }

    private static void falseWhenItWasDelivered() {
        SpecOrder x = Scene.issued(0, 1);
        x.deliver(0);
        CHECK.due("one that the faulty replica got", x.lose(0), false);
        CHECK.due("it stays delivered", x.message(0, 6), 1);
        SpecOrder y = Scene.issued(-1, 1);
        y.deliver(0);
        CHECK.due("lose(0)", y.lose(0), false);
        CHECK.due("it stays delivered", y.message(0, 6), 1);
    }

    private static void falseWhenItWasLost() {
        SpecOrder x = Scene.issued(-1, 1);
        x.lose(0);
        CHECK.due("lose(0) again", x.lose(0), false);
        CHECK.due("its state", x.message(0, 6), 2);
    }
}
