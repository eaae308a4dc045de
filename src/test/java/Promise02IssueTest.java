/** Promise 2, sentence by sentence. */
public final class Promise02IssueTest {
    private static final Check CHECK = new Check();

    public static void main(String[] args) {
        Part part = Part.section(CHECK, "Promise 2: issue");
        part.test("The client has a new request, which is open", Promise02IssueTest::aNewRequestWhichIsOpen);
        part.test("and asks the primary of its VIEW for it", Promise02IssueTest::asksThePrimaryOfItsView);
        part.test("its number", Promise02IssueTest::itsNumber);
        part.test("IllegalArgumentException: op or key is not as said", Promise02IssueTest::opOrKeyIsNotAsSaid);
        part.test("IllegalStateException: there are 12", Promise02IssueTest::thereAre12);
        part.test("IllegalStateException: there are 12", Promise02IssueTest::thereAre12ThoughAllAreDone);
        part.end();
        CHECK.end();
    }

    private static void aNewRequestWhichIsOpen() {
        SpecOrder x = new SpecOrder(-1);
        x.issue(Scene.SET, 3, 9);
        CHECK.dueAll("request 0", Scene.request(x, 0), 1, 0, 0, 0, 0);
        CHECK.dueThrow("request 1", Check.ELEMENT, () -> x.request(1, 0));
        x.flood(0);
        x.issue(Scene.SET, 3, 8);
        CHECK.due("the one before is done", x.request(0, 0), 2);
        CHECK.dueAll("request 1", Scene.request(x, 1), 1, 0, 0, 0, 0);
    }

    private static void asksThePrimaryOfItsView() {
        SpecOrder x = Scene.wanting(-1, 1);
        int first = x.messages();
        x.issue(Scene.ADD, 0, 1);
        CHECK.dueAll("in view 0", Scene.message(x, first), 0, 4, 0, 0, 1, 0, 0);
        x.lose(first);
        Scene.changeView(x, 1, 2);
        CHECK.due("view of replica 1", x.replica(1, 0), 1);
        x.issue(Scene.ADD, 0, 1);
        CHECK.dueAll("no reply of view 1 has come", Scene.lastMessage(x), 0, 4, 0, 0, 2, 0, 0);
        // replica 0 wants it and asks replica 1
        x.flood(x.messages() - 1);
        CHECK.due("view", x.view(), 1);
        x.issue(Scene.ADD, 0, 1);
        CHECK.dueAll("in view 1", Scene.lastMessage(x), 0, 4, 1, 0, 3, 0, 0);
    }

    private static void itsNumber() {
        SpecOrder x = new SpecOrder(-1);
        for (int i = 0; i < 12; i++) {
            CHECK.due("issue", x.issue(i % 3, i % 4, 100 - i), i);
            CHECK.due("the request that is asked for", x.message(i, 4), i);
        }
    }

    private static void opOrKeyIsNotAsSaid() {
        SpecOrder x = Scene.issued(-1, 1);
        int[] before = Scene.state(x, 1);
        for (int wrong : new int[] {Integer.MIN_VALUE, -1, 3, 4, Integer.MAX_VALUE}) {
            CHECK.dueThrow("op " + wrong, Check.ARGUMENT, () -> x.issue(wrong, 0, 0));
        }
        for (int wrong : Scene.NO_REPLICAS) {
            CHECK.dueThrow("key " + wrong, Check.ARGUMENT, () -> x.issue(0, wrong, 0));
            CHECK.dueThrow("both", Check.ARGUMENT, () -> x.issue(3, wrong, 0));
        }
        CHECK.dueAll("what a refused call leaves", Scene.state(x, 1), before);
        CHECK.due("the greatest op and key", x.issue(2, 3, 0), 1);
        CHECK.due("the smallest", x.issue(0, 0, 0), 2);
    }

    private static void thereAre12() {
        SpecOrder x = Scene.issued(-1, 11);
        CHECK.due("the 12th", x.issue(Scene.SET, 0, 5), 11);
        CHECK.dueThrow("the 13th", Check.STATE, () -> x.issue(Scene.SET, 0, 5));
        CHECK.dueThrow("the 13th again", Check.STATE, () -> x.issue(Scene.READ, 3, 0));
        CHECK.due("messages", x.messages(), 12);
        CHECK.dueThrow("request 12", Check.ELEMENT, () -> x.request(12, 0));
        CHECK.dueAll("the 12th is as it was", Scene.request(x, 11), 1, 0, 0, 0, 0);
    }

    private static void thereAre12ThoughAllAreDone() {
        SpecOrder x = Scene.flooded(-1, 12);
        CHECK.dueAll("the 12th", Scene.request(x, 11), 2, 12, 12, 4, 0);
        int messages = x.messages();
        CHECK.dueThrow("the 13th", Check.STATE, () -> x.issue(Scene.SET, 0, 5));
        CHECK.due("messages", x.messages(), messages);
    }
}
