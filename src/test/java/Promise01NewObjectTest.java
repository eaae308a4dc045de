/** Promise 1, sentence by sentence. */
public final class Promise01NewObjectTest {
    private static final Check CHECK = new Check();

    public static void main(String[] args) {
        Part part = Part.section(CHECK, "Promise 1: A new object");
        part.test("No requests", Promise01NewObjectTest::noRequests);
        part.test("the replica that is faulty", Promise01NewObjectTest::theReplicaThatIsFaulty);
        part.test("none if there is no such one", Promise01NewObjectTest::noneIfThereIsNoSuchOne);
        part.end();
        CHECK.end();
    }

    private static void noRequests() {
        for (int faulty = -1; faulty <= 4; faulty++) {
            SpecOrder x = new SpecOrder(faulty);
            CHECK.dueThrow("request(0, 0)", Check.ELEMENT, () -> x.request(0, 0));
            CHECK.dueThrow("retry(0)", Check.ELEMENT, () -> x.retry(0));
            CHECK.due("messages()", x.messages(), 0);
            CHECK.dueThrow("message(0, 0)", Check.ELEMENT, () -> x.message(0, 0));
            CHECK.due("the first request", x.issue(Scene.SET, 0, 1), 0);
        }
    }

    private static void theReplicaThatIsFaulty() {
        for (int faulty = 0; faulty < 4; faulty++) {
            SpecOrder x = Scene.flooded(faulty, 1);
            CHECK.due("replies with faulty " + faulty, x.request(0, 3), faulty == 0 ? 0 : 3);
            CHECK.due("row of the faulty one", x.replica(faulty, 1), 0);
            CHECK.due("row of another", x.replica(faulty == 3 ? 1 : 3, 1), faulty == 0 ? 0 : 1);
            int same = faulty;
            CHECK.dueThrow("echo of itself", Check.ARGUMENT, () -> x.echo(same, 0));
            CHECK.dueThrow("lie to itself", Check.ARGUMENT, () -> x.lie(same, 0));
        }
    }

    private static void noneIfThereIsNoSuchOne() {
        for (int faulty : Scene.NO_REPLICAS) {
            SpecOrder x = Scene.flooded(faulty, 1);
            CHECK.dueAll("request with faulty " + faulty, Scene.request(x, 0), 2, 1, 1, 4, 0);
            for (int i = 0; i < 4; i++) {
                CHECK.due("row of " + i, x.replica(i, 1), 1);
                CHECK.due("no one lies to " + i, x.lie(i, 0), false);
                CHECK.due("no one echoes " + i, x.echo(i, 0), false);
            }
        }
    }
}
