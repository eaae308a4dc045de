/** Promise 7, sentence by sentence; what the end of patience does is in the tests of the Terms. */
public final class Promise07PatienceTest {
    private static final Check CHECK = new Check();

    public static void main(String[] args) {
        Part part = Part.section(CHECK, "Promise 7: patience");
        part.test("A replica's patience ends: true", Promise07PatienceTest::aReplicasPatienceEnds);
        part.test("false when that means nothing", Promise07PatienceTest::thatMeansNothing);
        part.test("(also for the faulty one)", Promise07PatienceTest::alsoForTheFaultyOne);
        part.test("IllegalArgumentException: no such replica", Promise07PatienceTest::noSuchReplica);
        part.end();
        CHECK.end();
    }

    private static void aReplicasPatienceEnds() {
        SpecOrder x = Scene.wanting(-1, 1);
        for (int i = 1; i < 4; i++) {
            int first = x.messages();
            CHECK.due("patience(" + i + ")", x.patience(i), true);
            CHECK.due("messages", x.messages(), first + 3);
            CHECK.due("HATED", x.replica(i, 5), 1 << i);
        }
        CHECK.due("again", x.patience(3), true);
        CHECK.due("HATED", x.replica(3, 5), 8);
    }

    private static void thatMeansNothing() {
        SpecOrder x = Scene.flooded(-1, 1);
        int[] before = Scene.state(x, 1);
        for (int i = 0; i < 4; i++) {
            CHECK.due("patience(" + i + ")", x.patience(i), false);
        }
        CHECK.dueAll("what that leaves", Scene.state(x, 1), before);
        SpecOrder y = new SpecOrder(-1);
        CHECK.due("of a new object", y.patience(0), false);
        CHECK.due("messages", y.messages(), 0);
    }

    private static void alsoForTheFaultyOne() {
        for (int faulty = 0; faulty < 4; faulty++) {
            SpecOrder x = Scene.wanting(faulty, 1);
            int messages = x.messages();
            CHECK.due("patience(" + faulty + ")", x.patience(faulty), false);
            CHECK.due("messages", x.messages(), messages);
            CHECK.dueAll("the faulty one", Scene.replica(x, faulty), 0, 0, 0, 0, 0, 0, 7);
        }
    }

    private static void noSuchReplica() {
        SpecOrder x = Scene.wanting(-1, 1);
        int[] before = Scene.state(x, 1);
        for (int wrong : Scene.NO_REPLICAS) {
            CHECK.dueThrow("patience(" + wrong + ")", Check.ARGUMENT, () -> x.patience(wrong));
        }
        CHECK.dueAll("what a refused call leaves", Scene.state(x, 1), before);
        // 4 is no replica, so it is not the faulty one either
        SpecOrder y = new SpecOrder(4);
        CHECK.dueThrow("patience(4)", Check.ARGUMENT, () -> y.patience(4));
        SpecOrder z = new SpecOrder(-1);
        CHECK.dueThrow("patience(-1)", Check.ARGUMENT, () -> z.patience(-1));
    }
}
