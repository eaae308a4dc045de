/** Promise 9, sentence by sentence. */
public final class Promise09EchoTest {
    private static final Check CHECK = new Check();

    public static void main(String[] args) {
        Part part = Part.section(CHECK, "Promise 9: echo");
        part.test("The faulty replica gives the client at once a REPLY", Promise09EchoTest::atOnceAReply);
        part.test("like the one that the client keeps from another replica for a request: true",
                Promise09EchoTest::likeTheOneThatTheClientKeeps);
        part.test("gives the client at once a REPLY", Promise09EchoTest::takenLikeAnyOther);
        part.test("false when there is no faulty one", Promise09EchoTest::thereIsNoFaultyOne);
        part.test("or no such REPLY", Promise09EchoTest::noSuchReply);
        part.test("IllegalArgumentException (first): no such replica", Promise09EchoTest::noSuchReplica);
        part.test("or request", Promise09EchoTest::noSuchRequest);
        part.test("or it is the faulty one", Promise09EchoTest::itIsTheFaultyOne);
        part.test("IllegalArgumentException (first)", Promise09EchoTest::refusedFirst);
        part.end();
        CHECK.end();
    }

    private static void atOnceAReply() {
        SpecOrder x = Scene.flooded(2, 1);
        CHECK.dueAll("before", Scene.request(x, 0), 1, 0, 0, 3, 0);
        int messages = x.messages();
        CHECK.due("echo", x.echo(3, 0), true);
        CHECK.dueAll("the fourth equal one", Scene.request(x, 0), 2, 1, 1, 4, 0);
        CHECK.due("no message is sent", x.messages(), messages);
        CHECK.due("echo for what is done", x.echo(0, 0), true);
        CHECK.dueAll("it stays so", Scene.request(x, 0), 2, 1, 1, 4, 0);
    }

    private static void likeTheOneThatTheClientKeeps() {
        SpecOrder x = Scene.underALiar(2);
        Scene.lies(x, 1, 0);
        Scene.lies(x, 2, 0);
        Scene.lies(x, 3, 1, 0);
        x.flood(2);
        CHECK.due("of 3, the odd one", x.echo(3, 0), true);
        CHECK.due("two and two", x.retry(0), 1);
        CHECK.due("of 2, in place of that", x.echo(2, 0), true);
        CHECK.due("three", x.retry(0), 2);
        CHECK.due("for the other request", x.echo(3, 1), true);
        CHECK.due("replies", x.request(1, 3), 2);
    }

    /** The client keeps the latest one, unless it has one of a greater view. */
    private static void takenLikeAnyOther() {
        SpecOrder x = Scene.underALiar(2);
        for (int i = 1; i < 4; i++) {
            Scene.lies(x, i, 0);
        }
        x.flood(2);
        Scene.wantAt(x, 1, 1);
        Scene.wantAt(x, 2, 1);
        int first = x.messages();
        Scene.changeView(x, 1, 2);
        CHECK.due("all are in view 1 now", x.view(), 1);
        CHECK.due("replies", x.request(0, 3), 3);
        CHECK.due("messages", x.messages() > first, true);
        CHECK.due("echo of view 1", x.echo(1, 0), true);
        CHECK.due("four are equal", x.request(0, 0), 2);
        oneOfALowerView();
    }

    private static void oneOfALowerView() {
        SpecOrder x = Scene.underALiar(2);
        for (int i = 1; i < 4; i++) {
            Scene.lies(x, i, 0);
        }
        x.flood(2);
        Scene.wantAt(x, 1, 1);
        Scene.wantAt(x, 2, 1);
        int first = x.messages();
        x.patience(1);
        x.patience(2);
        // 3 and 2 change, then 1, which turns at once when it has the change of both
        x.deliver(first + 2);
        x.deliver(first + 5);
        x.deliver(first + 1);
        x.deliver(first + 4);
        x.deliver(first + 6);
        x.deliver(first + 7);
        CHECK.dueAll("reply of 1 in view 1", Scene.lastMessage(x), 2, 1, 4, 1, 0, 1, 0);
        x.deliver(x.messages() - 1);
        CHECK.due("echo of view 1", x.echo(1, 0), true);
        CHECK.due("two of view 1 and two of view 0", x.retry(0), 1);
        CHECK.due("echo of view 0", x.echo(2, 0), true);
        CHECK.due("it is not kept, so it is still two and two", x.retry(0), 1);
        CHECK.due("view", x.view(), 1);
    }

    private static void thereIsNoFaultyOne() {
        for (int faulty : Scene.NO_REPLICAS) {
            SpecOrder x = Scene.issued(faulty, 1);
            x.deliver(0);
            x.deliver(4);
            CHECK.due("the reply of 0 is there", x.request(0, 3), 1);
            for (int i = 0; i < 4; i++) {
                CHECK.due("echo of " + i, x.echo(i, 0), false);
            }
            CHECK.due("replies", x.request(0, 3), 1);
        }
    }

    private static void noSuchReply() {
        SpecOrder x = Scene.issued(2, 2);
        CHECK.due("nothing was sent", x.echo(1, 0), false);
        x.deliver(0);
        CHECK.due("it is under way", x.echo(0, 0), false);
        x.deliver(5);
        CHECK.due("from another replica", x.echo(1, 0), false);
        CHECK.due("for another request", x.echo(0, 1), false);
        CHECK.due("replies", x.request(0, 3), 1);
        CHECK.due("replies for the other", x.request(1, 3), 0);
        CHECK.due("that one", x.echo(0, 0), true);
        CHECK.due("replies", x.request(0, 3), 2);
    }

    private static void noSuchReplica() {
        SpecOrder x = Scene.flooded(2, 1);
        int[] before = Scene.state(x, 1);
        for (int wrong : Scene.NO_REPLICAS) {
            CHECK.dueThrow("echo of " + wrong, Check.ARGUMENT, () -> x.echo(wrong, 0));
        }
        CHECK.dueAll("what a refused call leaves", Scene.state(x, 1), before);
    }

    private static void noSuchRequest() {
        SpecOrder x = new SpecOrder(2);
        CHECK.dueThrow("there is none at all", Check.ARGUMENT, () -> x.echo(1, 0));
        x.issue(Scene.SET, 0, 1);
        x.flood(0);
        int[] before = Scene.state(x, 1);
        for (int wrong : new int[] {Integer.MIN_VALUE, -1, 1, 12, Integer.MAX_VALUE}) {
            CHECK.dueThrow("request " + wrong, Check.ARGUMENT, () -> x.echo(1, wrong));
        }
        CHECK.dueAll("what a refused call leaves", Scene.state(x, 1), before);
        SpecOrder y = Scene.flooded(2, 12);
        CHECK.due("request 11 of twelve", y.echo(1, 11), true);
        CHECK.dueThrow("request 12 of twelve", Check.ARGUMENT, () -> y.echo(1, 12));
    }

    private static void itIsTheFaultyOne() {
        for (int faulty = 0; faulty < 4; faulty++) {
            SpecOrder x = Scene.issued(faulty, 1);
            int same = faulty;
            CHECK.dueThrow("echo of " + faulty, Check.ARGUMENT, () -> x.echo(same, 0));
        }
        SpecOrder y = Scene.flooded(2, 1);
        y.echo(1, 0);
        CHECK.dueThrow("echo of what it has echoed", Check.ARGUMENT, () -> y.echo(2, 0));
    }

    private static void refusedFirst() {
        SpecOrder x = Scene.flooded(-1, 1);
        CHECK.dueThrow("no faulty one, replica 4", Check.ARGUMENT, () -> x.echo(4, 0));
        CHECK.dueThrow("no faulty one, replica -1", Check.ARGUMENT, () -> x.echo(-1, 0));
        CHECK.dueThrow("no faulty one, request 1", Check.ARGUMENT, () -> x.echo(0, 1));
        SpecOrder y = Scene.issued(2, 1);
        CHECK.dueThrow("no reply, replica 4", Check.ARGUMENT, () -> y.echo(4, 0));
        CHECK.dueThrow("no reply, request 1", Check.ARGUMENT, () -> y.echo(0, 1));
        CHECK.dueThrow("no reply, the faulty one", Check.ARGUMENT, () -> y.echo(2, 0));
    }
}
