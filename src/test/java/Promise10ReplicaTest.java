/** Promise 10, sentence by sentence. */
public final class Promise10ReplicaTest {
    private static final Check CHECK = new Check();

    public static void main(String[] args) {
        Part part = Part.section(CHECK, "Promise 10: replica");
        part.test("Of a replica: 0 its VIEW", Promise10ReplicaTest::itsView);
        part.test("1 its row's length", Promise10ReplicaTest::itsRowsLength);
        part.test("2 FIXED", Promise10ReplicaTest::fixed);
        part.test("3 1 if it is changing", Promise10ReplicaTest::oneIfItIsChanging);
        part.test("4 WANTED and", Promise10ReplicaTest::wantedAsBits);
        part.test("5 HATED as bits", Promise10ReplicaTest::hatedAsBits);
        part.test("6 the digest of its row", Promise10ReplicaTest::theDigestOfItsRow);
        part.test("10 + k (0 .. 11) the request at place k + 1 of its row", Promise10ReplicaTest::theRequestAtAPlace);
        part.test("NONE if there is none", Promise10ReplicaTest::noneIfThereIsNone);
        part.test("30 + k (0 .. 3) its number k", Promise10ReplicaTest::itsNumbers);
        part.test("IllegalArgumentException: no such replica", Promise10ReplicaTest::noSuchReplica);
        part.test("or what", Promise10ReplicaTest::noSuchWhat);
        part.end();
        CHECK.end();
    }

    private static void itsView() {
        SpecOrder x = Scene.wanting(3, 1);
        CHECK.due("at first", x.replica(2, 0), 0);
        Scene.changeView(x, 1, 2);
        for (int i = 0; i < 4; i++) {
            CHECK.due("of " + i + ", 3 being faulty", x.replica(i, 0), i == 3 ? 0 : 1);
        }
    }

    private static void itsRowsLength() {
        SpecOrder x = new SpecOrder(-1);
        for (int i = 0; i < 12; i++) {
            CHECK.due("length", x.replica(1, 1), i);
            x.issue(Scene.SET, 0, 0);
            x.flood(8 * i);
        }
        CHECK.due("length", x.replica(1, 1), 12);
    }

    private static void fixed() {
        SpecOrder x = Scene.flooded(3, 12);
        CHECK.due("at first", x.replica(0, 2), 0);
        x.retry(11);
        x.deliver(x.messages() - 4);
        CHECK.due("the greatest", x.replica(0, 2), 12);
        CHECK.due("of another", x.replica(1, 2), 0);
    }

    private static void oneIfItIsChanging() {
        SpecOrder x = Scene.wanting(-1, 1);
        int first = x.messages();
        x.patience(1);
        CHECK.due("it hates itself alone", x.replica(1, 3), 0);
        x.patience(2);
        x.deliver(first + 4);
        CHECK.due("it is changing", x.replica(1, 3), 1);
        x.flood(first);
        CHECK.due("it has turned", x.replica(1, 3), 0);
    }

    private static void wantedAsBits() {
        SpecOrder x = Scene.issued(-1, 12);
        CHECK.due("nothing", x.replica(3, 4), 0);
        Scene.wantAt(x, 3, 0);
        CHECK.due("the first", x.replica(3, 4), 1);
        Scene.wantAt(x, 3, 11);
        CHECK.due("and the last", x.replica(3, 4), 2049);
        for (int i = 1; i < 11; i++) {
            Scene.wantAt(x, 3, i);
        }
        CHECK.due("all twelve", x.replica(3, 4), 4095);
        CHECK.due("of another", x.replica(2, 4), 0);
    }

    private static void hatedAsBits() {
        for (int i = 1; i < 4; i++) {
            SpecOrder x = Scene.wanting(-1, 1);
            int first = x.messages();
            x.patience(i);
            CHECK.due("itself", x.replica(i, 5), 1 << i);
            x.deliver(first);
            CHECK.due("in 0", x.replica(0, 5), 1 << i);
        }
        // in view 1 replica 0 wants something, too
        SpecOrder x = Scene.wanting(-1, 1);
        Scene.changeView(x, 1, 2);
        Scene.wantAt(x, 0, 0);
        x.patience(0);
        CHECK.due("replica 0", x.replica(0, 5), 1);
    }

    private static void theDigestOfItsRow() {
        SpecOrder x = Scene.underALiar(12);
        CHECK.due("of nothing", x.replica(1, 6), 7);
        Scene.lies(x, 1, 11);
        CHECK.due("of one", x.replica(1, 6), 7 * 31 + 12);
        Scene.lies(x, 1, 0);
        CHECK.due("of two", x.replica(1, 6), (7 * 31 + 12) * 31 + 1);
        Scene.lies(x, 1, 5, 1, 2, 3, 4, 6, 7, 8, 9, 10);
        CHECK.due("of twelve, which wraps", x.replica(1, 6), Scene.digest(11, 0, 5, 1, 2, 3, 4, 6, 7, 8, 9, 10));
        CHECK.due("of another", x.replica(2, 6), 7);
    }

    private static void theRequestAtAPlace() {
        SpecOrder x = Scene.underALiar(12);
        for (int k = 0; k < 12; k++) {
            Scene.lies(x, 2, (k + 5) % 12);
        }
        for (int k = 0; k < 12; k++) {
            CHECK.due("replica(2, " + (10 + k) + ")", x.replica(2, 10 + k), (k + 5) % 12);
        }
    }

    private static void noneIfThereIsNone() {
        SpecOrder x = Scene.underALiar(2);
        for (int k = 0; k < 12; k++) {
            CHECK.due("of an empty row", x.replica(2, 10 + k), SpecOrder.NONE);
        }
        Scene.lies(x, 2, 1, 0);
        CHECK.due("the last that is there", x.replica(2, 11), 0);
        for (int k = 2; k < 12; k++) {
            CHECK.due("behind it", x.replica(2, 10 + k), SpecOrder.NONE);
        }
        CHECK.due("NONE", SpecOrder.NONE, -1);
    }

    private static void itsNumbers() {
        SpecOrder x = new SpecOrder(-1);
        CHECK.dueAll("at first", Scene.numbers(x, 3), 0, 0, 0, 0);
        for (int key = 0; key < 4; key++) {
            x.issue(Scene.SET, key, 10 * key - 1);
        }
        x.flood(0);
        CHECK.dueAll("each", Scene.numbers(x, 3), -1, 9, 19, 29);
    }

    private static void noSuchReplica() {
        SpecOrder x = Scene.issued(4, 1);
        for (int wrong : Scene.NO_REPLICAS) {
            for (int what : new int[] {0, 6, 10, 33, 7}) {
                CHECK.dueThrow("replica(" + wrong + ", " + what + ")", Check.ARGUMENT, () -> x.replica(wrong, what));
            }
        }
        CHECK.due("replica(0, 0)", x.replica(0, 0), 0);
        CHECK.due("replica(3, 0)", x.replica(3, 0), 0);
    }

    private static void noSuchWhat() {
        SpecOrder x = Scene.flooded(2, 12);
        int[] wrong = {Integer.MIN_VALUE, -1, 7, 8, 9, 22, 23, 29, 34, 35, 40, Integer.MAX_VALUE};
        for (int what : wrong) {
            for (int i = 0; i < 4; i++) {
                int replica = i;
                CHECK.dueThrow("what " + what + " of " + i, Check.ARGUMENT, () -> x.replica(replica, what));
            }
        }
        CHECK.due("what 6 of the faulty one", x.replica(2, 6), 7);
        CHECK.due("what 21", x.replica(1, 21), 11);
        CHECK.due("what 33", x.replica(1, 33), 0);
    }
}
