/** Promise 12, sentence by sentence. */
public final class Promise12MessageTest {
    private static final Check CHECK = new Check();

    public static void main(String[] args) {
        Part part = Part.section(CHECK, "Promise 12: message");
        part.test("Of a message: 0 its kind, 1 its sender, 2 its receiver", Promise12MessageTest::kindSenderReceiver);
        part.test("3 its view", Promise12MessageTest::itsView);
        part.test("(0 of an ASK)", Promise12MessageTest::zeroOfAnAsk);
        part.test("4 its request (NONE if it has none)", Promise12MessageTest::itsRequest);
        part.test("5 its place", Promise12MessageTest::itsPlace);
        part.test("(of CHANGE and NEW the row's length", Promise12MessageTest::theRowsLength);
        part.test("0 if it has none)", Promise12MessageTest::zeroIfItHasNoPlace);
        part.test("6 0 if it is under way, 1 delivered, 2 lost", Promise12MessageTest::underWayDeliveredLost);
        part.test("NoSuchElementException: there is none such", Promise12MessageTest::thereIsNoneSuch);
        part.test("or no such what", Promise12MessageTest::noSuchWhat);
        part.end();
        CHECK.end();
    }

    /** Two requests done by proof, a third that 1 and 2 want, and a change to view 1; replica 3 is faulty. */
    private static SpecOrder allKinds() {
        SpecOrder x = Scene.flooded(3, 2);
        x.retry(1);
        x.flood(14);
        x.issue(Scene.ADD, 3, 1);
        x.lose(21);
        x.retry(2);
        x.deliver(23);
        x.deliver(24);
        x.patience(1);
        x.patience(2);
        x.flood(28);
        return x;
    }

    private static void kindSenderReceiver() {
        SpecOrder x = allKinds();
        int[][] due = {{0, 0, 4, 0}, {2, 1, 0, 1}, {5, 2, 0, 4}, {14, 3, 4, 0}, {17, 3, 4, 3}, {18, 4, 0, 4},
            {26, 0, 1, 0}, {28, 5, 1, 0}, {30, 5, 1, 3}, {31, 5, 2, 0}, {34, 6, 2, 1}, {35, 6, 0, 1}, {36, 7, 1, 0},
            {38, 7, 1, 3}};
        for (int[] d : due) {
            CHECK.due("kind of " + d[0], x.message(d[0], 0), d[1]);
            CHECK.due("sender of " + d[0], x.message(d[0], 1), d[2]);
            CHECK.due("receiver of " + d[0], x.message(d[0], 2), d[3]);
        }
    }

    private static void itsView() {
        SpecOrder x = allKinds();
        int[][] due = {{2, 0}, {5, 0}, {14, 0}, {18, 0}, {28, 0}, {34, 1}, {36, 1}, {39, 1}};
        for (int[] d : due) {
            CHECK.due("view of " + d[0] + ", of kind " + x.message(d[0], 0), x.message(d[0], 3), d[1]);
        }
    }

    private static void zeroOfAnAsk() {
        SpecOrder x = allKinds();
        CHECK.due("the client's view", x.view(), 1);
        x.issue(Scene.ADD, 3, 1);
        CHECK.dueAll("an ASK of the client", Scene.lastMessage(x), 0, 4, 1, 0, 3, 0, 0);
        x.retry(3);
        int first = x.messages();
        x.deliver(first - 2);
        CHECK.dueAll("an ASK of replica 2 in view 1", Scene.lastMessage(x), 0, 2, 1, 0, 3, 0, 0);
    }

    private static void itsRequest() {
        SpecOrder x = allKinds();
        int[][] due = {{0, 0}, {1, 1}, {2, 0}, {6, 1}, {5, 0}, {9, 1}, {26, 2}, {14, -1}, {18, -1}, {28, -1}, {34, -1},
            {36, -1}};
        for (int[] d : due) {
            CHECK.due("request of " + d[0] + ", of kind " + x.message(d[0], 0), x.message(d[0], 4), d[1]);
        }
    }

    private static void itsPlace() {
        SpecOrder x = allKinds();
        int[][] due = {{2, 1}, {6, 2}, {5, 1}, {9, 2}, {14, 2}, {18, 2}, {39, 1}, {40, 2}};
        for (int[] d : due) {
            CHECK.due("place of " + d[0] + ", of kind " + x.message(d[0], 0), x.message(d[0], 5), d[1]);
        }
    }

    private static void theRowsLength() {
        SpecOrder x = allKinds();
        CHECK.due("of a CHANGE with two", x.message(34, 5), 2);
        CHECK.due("of a NEW with two", x.message(36, 5), 2);
        SpecOrder y = Scene.wanting(-1, 1);
        int first = y.messages();
        Scene.changeView(y, 1, 2);
        CHECK.dueAll("of a CHANGE with an empty row", Scene.message(y, first + 6), 6, 2, 1, 1, -1, 0, 1);
        CHECK.dueAll("of a NEW with an empty row", Scene.message(y, first + 11), 7, 1, 3, 1, -1, 0, 1);
    }

    private static void zeroIfItHasNoPlace() {
        SpecOrder x = allKinds();
        CHECK.due("of an ASK", x.message(1, 5), 0);
        CHECK.due("of an ASK of a replica", x.message(26, 5), 0);
        CHECK.due("of a HATE", x.message(28, 5), 0);
    }

    private static void underWayDeliveredLost() {
        SpecOrder x = Scene.issued(-1, 3);
        x.deliver(1);
        x.lose(2);
        CHECK.due("under way", x.message(0, 6), 0);
        CHECK.due("delivered", x.message(1, 6), 1);
        CHECK.due("lost", x.message(2, 6), 2);
    }

    private static void thereIsNoneSuch() {
        SpecOrder x = new SpecOrder(-1);
        CHECK.dueThrow("of a new object", Check.ELEMENT, () -> x.message(0, 0));
        x.issue(Scene.SET, 0, 1);
        for (int wrong : new int[] {Integer.MIN_VALUE, -1, 1, 2, 599, 600, Integer.MAX_VALUE}) {
            for (int what : new int[] {0, 6, 7}) {
                CHECK.dueThrow("message(" + wrong + ", " + what + ")", Check.ELEMENT, () -> x.message(wrong, what));
            }
        }
        Scene.fill(x, 0, 600);
        CHECK.due("the last of all", x.message(599, 0), 0);
        CHECK.dueThrow("message 600", Check.ELEMENT, () -> x.message(600, 0));
    }

    private static void noSuchWhat() {
        SpecOrder x = Scene.issued(-1, 1);
        for (int wrong : new int[] {Integer.MIN_VALUE, -1, 7, 8, 10, Integer.MAX_VALUE}) {
            CHECK.dueThrow("message(0, " + wrong + ")", Check.ELEMENT, () -> x.message(0, wrong));
        }
        CHECK.due("message(0, 6)", x.message(0, 6), 0);
    }
}
