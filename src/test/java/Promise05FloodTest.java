/** Promise 5, sentence by sentence. */
public final class Promise05FloodTest {
    private static final Check CHECK = new Check();

    public static void main(String[] args) {
        Part part = Part.section(CHECK, "Promise 5: flood");
        part.test("All messages from one on", Promise05FloodTest::fromOneOn);
        part.test("that were neither delivered nor lost", Promise05FloodTest::neitherDeliveredNorLost);
        part.test("are delivered in order", Promise05FloodTest::inOrder);
        part.test("(those sent meanwhile, too)", Promise05FloodTest::thoseSentMeanwhile);
        part.test("how many", Promise05FloodTest::howMany);
        part.test("how many", Promise05FloodTest::howManyAreThoseToTheFaultyOne);
        part.test("IllegalArgumentException: from is below 0", Promise05FloodTest::fromIsBelow0);
        part.end();
        CHECK.end();
    }

    private static void fromOneOn() {
        SpecOrder x = Scene.issued(-1, 3);
        CHECK.due("from the last on: its question, three orders and four replies", x.flood(2), 8);
        CHECK.due("the one before", x.message(1, 6), 0);
        CHECK.due("that one itself", x.message(2, 6), 1);
        CHECK.dueAll("row of 3", Scene.row(x, 3), 2);
        CHECK.due("from the first on", x.flood(0), 16);
        CHECK.dueAll("row of 3", Scene.row(x, 3), 2, 0, 1);
    }

    private static void neitherDeliveredNorLost() {
        SpecOrder x = Scene.issued(-1, 2);
        x.deliver(0);
        x.lose(1);
        x.lose(4);
        x.deliver(5);
        // left are the orders 2 and 3, and the replies to them
        CHECK.due("how many", x.flood(0), 4);
        CHECK.due("a lost one stays so", x.message(1, 6), 2);
        CHECK.due("another lost one", x.message(4, 6), 2);
        CHECK.due("a delivered one was not delivered again", x.messages(), 8);
        CHECK.dueAll("row of 0", Scene.row(x, 0), 0);
        CHECK.due("replies", x.request(0, 3), 3);
    }

    private static void inOrder() {
        SpecOrder x = Scene.issued(-1, 3);
        x.flood(0);
        CHECK.dueAll("the first question came first, so row of 0", Scene.row(x, 0), 0, 1, 2);
        // an order of place 2 before that of place 1 would mean nothing
        CHECK.dueAll("row of 1", Scene.row(x, 1), 0, 1, 2);
    }

    private static void thoseSentMeanwhile() {
        SpecOrder x = Scene.issued(-1, 1);
        x.flood(0);
        CHECK.due("messages", x.messages(), 8);
        for (int i = 0; i < 8; i++) {
            CHECK.due("state of " + i, x.message(i, 6), 1);
        }
        CHECK.due("done", x.request(0, 0), 2);
    }

    private static void howMany() {
        SpecOrder x = new SpecOrder(-1);
        CHECK.due("of nothing", x.flood(0), 0);
        x.issue(Scene.SET, 0, 1);
        CHECK.due("from behind the last", x.flood(1), 0);
        CHECK.due("from 599", x.flood(599), 0);
        CHECK.due("from 600", x.flood(600), 0);
        CHECK.due("from far behind", x.flood(Integer.MAX_VALUE), 0);
        CHECK.due("the question is under way", x.message(0, 6), 0);
        CHECK.due("all", x.flood(0), 8);
        CHECK.due("nothing is left", x.flood(0), 0);
    }

    private static void howManyAreThoseToTheFaultyOne() {
        SpecOrder x = Scene.issued(3, 1);
        CHECK.due("the question, three orders, one to the faulty one, and three replies", x.flood(0), 7);
        SpecOrder y = Scene.issued(0, 1);
        CHECK.due("the question alone", y.flood(0), 1);
    }

    private static void fromIsBelow0() {
        SpecOrder x = Scene.issued(-1, 1);
        int[] before = Scene.state(x, 1);
        for (int wrong : new int[] {Integer.MIN_VALUE, -600, -2, -1}) {
            CHECK.dueThrow("flood(" + wrong + ")", Check.ARGUMENT, () -> x.flood(wrong));
        }
        CHECK.dueAll("what a refused call leaves", Scene.state(x, 1), before);
        SpecOrder y = new SpecOrder(-1);
        CHECK.dueThrow("flood(-1) where there is nothing", Check.ARGUMENT, () -> y.flood(-1));
    }
}
