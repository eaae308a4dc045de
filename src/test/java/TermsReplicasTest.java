/** The document's Terms: replicas and the faulty one, sentence by sentence. */
public final class TermsReplicasTest {
    private static final Check CHECK = new Check();

    public static void main(String[] args) {
        Part replicas = Part.terms(CHECK, "REPLICAS 0 .. 3");
        replicas.test("REPLICAS 0 .. 3; the CLIENT is 4", TermsReplicasTest::theClientIs4);
        replicas.test("The PRIMARY of view v is v % 4", TermsReplicasTest::thePrimaryOfAView);
        replicas.test("A replica has a VIEW", TermsReplicasTest::eachHasItsOwnView);
        replicas.test("a ROW of different requests", TermsReplicasTest::differentRequests);
        replicas.test("(in the order in which it has done them", TermsReplicasTest::inTheOrderInWhichItHasDoneThem);
        replicas.test("what it has in its four numbers always is what the row gives)",
                TermsReplicasTest::itsNumbersAreWhatTheRowGives);
        replicas.test("FIXED (a length), is CHANGING or not, and sets: WANTED (requests) and HATED (replicas)",
                TermsReplicasTest::fixedChangingWantedHated);
        replicas.test("At first all are 0, empty, not changing", TermsReplicasTest::atFirst);
        replicas.test("The DIGEST of the first n of a row: d = 7", TermsReplicasTest::theDigestOfNothing);
        replicas.test("then for each request q: d = 31 * d + q + 1", TermsReplicasTest::theDigestOfARow);
        replicas.end();
        Part faulty = Part.terms(CHECK, "One replica may be FAULTY");
        faulty.test("One replica may be FAULTY: it takes and does nothing", TermsReplicasTest::itTakesAndDoesNothing);
        faulty.test("but it may lie", TermsReplicasTest::butItMayLie);
        faulty.end();
        CHECK.end();
    }

    private static void theClientIs4() {
        SpecOrder x = Scene.issued(-1, 1);
        CHECK.due("sender of the question", x.message(0, 1), 4);
        x.deliver(0);
        CHECK.due("receiver of the reply", x.message(4, 2), 4);
        CHECK.dueThrow("4 is no replica", Check.ARGUMENT, () -> x.replica(4, 0));
        for (int i = 0; i < 4; i++) {
            CHECK.due("replica " + i, x.replica(i, 0), 0);
        }
    }

    private static void thePrimaryOfAView() {
        SpecOrder x = Scene.flooded(-1, 1);
        x.issue(Scene.ADD, 0, 1);
        x.lose(8);
        Scene.want(x, 1);
        for (int view = 1; view <= 6; view++) {
            int first = x.messages();
            Scene.changeView(x, 1, 2);
            CHECK.due("view", x.view(), view);
            CHECK.due("the last CHANGE of view " + view, x.message(first + 8, 0), Scene.CHANGE);
            CHECK.due("goes to", x.message(first + 8, 2), view % 4);
            x.issue(Scene.READ, 0, 0);
            CHECK.due("the client asks", x.message(x.messages() - 1, 2), view % 4);
            x.lose(x.messages() - 1);
        }
        // replica 2 is the primary of view 6: it orders, the others ask it
        int first = x.messages();
        x.retry(2);
        x.deliver(first + 3);
        CHECK.dueAll("3 asks 2", Scene.lastMessage(x), 0, 3, 2, 0, 2, 0, 0);
        x.deliver(first + 2);
        CHECK.dueAll("2 orders", Scene.message(x, first + 5), 1, 2, 0, 6, 2, 2, 0);
    }

    private static void eachHasItsOwnView() {
        SpecOrder x = Scene.wanting(-1, 1);
        int first = x.messages();
        x.patience(2);
        x.patience(3);
        x.deliver(first + 2);
        CHECK.due("view of 3", x.replica(3, 0), 1);
        CHECK.due("view of 2", x.replica(2, 0), 0);
        CHECK.due("view of 1", x.replica(1, 0), 0);
        CHECK.due("view of the client", x.view(), 0);
    }

    private static void differentRequests() {
        SpecOrder x = Scene.issued(-1, 1);
        x.retry(0);
        x.deliver(0);
        x.deliver(1);
        CHECK.dueAll("asked twice", Scene.row(x, 0), 0);
        x.flood(0);
        CHECK.dueAll("ordered twice", Scene.row(x, 2), 0);
        CHECK.due("done once", x.replica(2, 30), 1);
        SpecOrder y = Scene.underALiar(2);
        Scene.lies(y, 1, 1, 0);
        CHECK.due("a lie of what is there", y.lie(1, 1), false);
        CHECK.dueAll("row", Scene.row(y, 1), 1, 0);
    }

    private static void inTheOrderInWhichItHasDoneThem() {
        SpecOrder x = Scene.issued(-1, 4);
        x.deliver(2);
        x.deliver(0);
        x.deliver(3);
        x.deliver(1);
        CHECK.dueAll("as they were asked for", Scene.row(x, 0), 2, 0, 3, 1);
        x.flood(0);
        CHECK.dueAll("as they were ordered", Scene.row(x, 3), 2, 0, 3, 1);
    }

    private static void itsNumbersAreWhatTheRowGives() {
        SpecOrder x = new SpecOrder(0);
        x.issue(Scene.SET, 0, 5);
        x.issue(Scene.SET, 1, 6);
        x.issue(Scene.ADD, 0, 2);
        x.issue(Scene.SET, 3, 1);
        Scene.loseAll(x, 0);
        Scene.lies(x, 1, 2, 0);
        Scene.lies(x, 2, 2, 1);
        Scene.lies(x, 3, 1, 0, 2);
        CHECK.dueAll("of 1", Scene.numbers(x, 1), 5, 0, 0, 0);
        CHECK.dueAll("of 2", Scene.numbers(x, 2), 2, 6, 0, 0);
        CHECK.dueAll("of 3", Scene.numbers(x, 3), 7, 6, 0, 0);
        Scene.wantAt(x, 1, 3);
        Scene.wantAt(x, 2, 3);
        Scene.changeView(x, 1, 2);
        // two began with request 2 and did not go on alike
        for (int i = 1; i < 4; i++) {
            CHECK.dueAll("row of " + i + ", after a change", Scene.row(x, i), 2);
            CHECK.dueAll("of " + i + ", after a change", Scene.numbers(x, i), 2, 0, 0, 0);
        }
    }

    private static void fixedChangingWantedHated() {
        SpecOrder x = Scene.flooded(3, 3);
        x.retry(1);
        x.flood(0);
        CHECK.due("FIXED is shorter than the row", x.replica(0, 2), 2);
        x.issue(Scene.READ, 0, 0);
        x.lose(x.messages() - 1);
        Scene.want(x, 3);
        CHECK.dueAll("of 1", Scene.replica(x, 1), 0, 3, 2, 0, 8, 0, Scene.digest(0, 1, 2));
        int first = x.messages();
        x.patience(2);
        x.deliver(first + 1);
        CHECK.dueAll("of 1, which hates 2", Scene.replica(x, 1), 0, 3, 2, 0, 8, 4, Scene.digest(0, 1, 2));
        x.patience(1);
        CHECK.dueAll("of 1, which is changing", Scene.replica(x, 1), 1, 3, 2, 1, 8, 0, Scene.digest(0, 1, 2));
    }

    private static void atFirst() {
        for (int faulty = -1; faulty < 4; faulty++) {
            SpecOrder x = new SpecOrder(faulty);
            for (int i = 0; i < 4; i++) {
                CHECK.dueAll("replica " + i, Scene.replica(x, i), 0, 0, 0, 0, 0, 0, 7);
                CHECK.dueAll("its numbers", Scene.numbers(x, i), 0, 0, 0, 0);
                CHECK.due("its row", x.replica(i, 10), SpecOrder.NONE);
            }
        }
    }

    private static void theDigestOfNothing() {
        CHECK.due("digest", new SpecOrder(-1).replica(0, 6), 7);
    }

    private static void theDigestOfARow() {
        SpecOrder x = Scene.underALiar(12);
        int[] due = {218, 6760, 209563, 6496457, 201390172, 1948128042, 262427165, -454692469, -1210564642, 1127201772,
            583516575, 909144653};
        for (int i = 0; i < 12; i++) {
            Scene.lies(x, 3, i);
            CHECK.due("digest of " + (i + 1), x.replica(3, 6), due[i]);
        }
        Scene.lies(x, 2, 1, 0);
        CHECK.due("the order counts", x.replica(2, 6), 31 * (31 * 7 + 2) + 1);
    }

    private static void itTakesAndDoesNothing() {
        SpecOrder x = Scene.issued(1, 2);
        x.retry(1);
        x.flood(0);
        x.retry(0);
        x.flood(0);
        // it was sent questions, orders, proofs and hates
        x.issue(Scene.READ, 0, 0);
        x.lose(x.messages() - 1);
        Scene.wantAt(x, 2, 2);
        Scene.wantAt(x, 3, 2);
        Scene.changeView(x, 2, 3);
        CHECK.due("view of 2, since two hate", x.replica(2, 0), 1);
        CHECK.due("2 is changing, since 1 makes no new row", x.replica(2, 3), 1);
        CHECK.dueAll("the faulty one", Scene.replica(x, 1), 0, 0, 0, 0, 0, 0, 7);
        CHECK.dueAll("its numbers", Scene.numbers(x, 1), 0, 0, 0, 0);
        CHECK.due("its patience", x.patience(1), false);
        int messages = x.messages();
        for (int i = 0; i < messages; i++) {
            CHECK.due("sender of " + i + " is another", x.message(i, 1) != 1, true);
        }
    }

    private static void butItMayLie() {
        SpecOrder x = Scene.underALiar(2);
        CHECK.due("by an order", x.lie(1, 1), true);
        x.flood(2);
        CHECK.due("by a reply", x.echo(1, 1), true);
        CHECK.due("replies", x.request(1, 3), 2);
        CHECK.dueAll("the faulty one", Scene.replica(x, 0), 0, 0, 0, 0, 0, 0, 7);
    }
}
