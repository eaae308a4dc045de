/** Promise 14. */
public final class Promise14ViewTest {
    private static final Check CHECK = new Check();

    public static void main(String[] args) {
        Part part = Part.section(CHECK, "Promise 14: view");
        part.test("The client's VIEW", Promise14ViewTest::zeroAtFirst);
        part.test("The client's VIEW", Promise14ViewTest::thatOfTheRepliesThatCame);
        part.end();
        CHECK.end();
    }

    private static void zeroAtFirst() {
        SpecOrder x = new SpecOrder(3);
        CHECK.due("of a new object", x.view(), 0);
        x.issue(Scene.SET, 0, 1);
        x.flood(0);
        CHECK.due("after replies of view 0", x.view(), 0);
    }

    private static void thatOfTheRepliesThatCame() {
        SpecOrder x = Scene.flooded(-1, 1);
        x.issue(Scene.SET, 0, 2);
        x.lose(8);
        Scene.want(x, 1);
        int first = x.messages();
        x.patience(1);
        x.patience(2);
        x.deliver(first + 1);
        x.deliver(first + 4);
        CHECK.due("replica 1 is in view 1, and the client is not", x.view(), 0);
        x.flood(first);
        CHECK.due("replies of view 1 came", x.view(), 1);
        Scene.changeView(x, 2, 3);
        CHECK.due("of view 2", x.view(), 2);
        Scene.changeView(x, 1, 3);
        Scene.changeView(x, 1, 2);
        CHECK.due("of view 4", x.view(), 4);
        x.retry(1);
        x.flood(first);
        CHECK.dueAll("replica 0 is its primary", Scene.row(x, 3), 0, 1);
    }
}
