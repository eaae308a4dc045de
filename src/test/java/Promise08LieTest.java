/** Promise 8, sentence by sentence. */
public final class Promise08LieTest {
    private static final Check CHECK = new Check();

    public static void main(String[] args) {
        Part part = Part.section(CHECK, "Promise 8: lie");
        part.test("The faulty replica, as primary of its view,", Promise08LieTest::asPrimaryOfItsView);
        part.test("gives replica to at once an ORDER of a request", Promise08LieTest::atOnceAnOrder);
        part.test("with that one's view, the next place of its row, and the digest that fits",
                Promise08LieTest::theNextPlaceAndTheDigestThatFits);
        part.test("the next place of its row", Promise08LieTest::theTwelfthPlaceIsTheLast);
        part.test("whether to has done it", Promise08LieTest::whetherToHasDoneIt);
        part.test("whether to has done it", Promise08LieTest::aChangingOneHasNotDoneIt);
        part.test("IllegalArgumentException (first): no such replica", Promise08LieTest::noSuchReplica);
        part.test("or request", Promise08LieTest::noSuchRequest);
        part.test("or to is the faulty one", Promise08LieTest::toIsTheFaultyOne);
        part.test("IllegalArgumentException (first)", Promise08LieTest::refusedFirst);
        part.test("false when there is no faulty one", Promise08LieTest::thereIsNoFaultyOne);
        part.test("or it is not that view's primary", Promise08LieTest::notThatViewsPrimary);
        part.end();
        CHECK.end();
    }

    private static void asPrimaryOfItsView() {
        SpecOrder x = Scene.underALiar(1);
        for (int i = 1; i < 4; i++) {
            CHECK.due("to " + i, x.lie(i, 0), true);
            CHECK.dueAll("row of " + i, Scene.row(x, i), 0);
        }
        CHECK.dueAll("the liar itself", Scene.replica(x, 0), 0, 0, 0, 0, 0, 0, 7);
    }

    private static void atOnceAnOrder() {
        SpecOrder x = Scene.underALiar(2);
        Scene.wantAt(x, 2, 1);
        int first = x.messages();
        CHECK.due("WANTED of 2", x.replica(2, 4), 2);
        CHECK.due("lie", x.lie(2, 1), true);
        CHECK.due("no order is sent, only the reply", x.messages(), first + 1);
        CHECK.dueAll("the reply", Scene.message(x, first), 2, 2, 4, 0, 1, 1, 0);
        CHECK.dueAll("replica 2", Scene.replica(x, 2), 0, 1, 0, 0, 0, 0, Scene.digest(1));
        CHECK.due("its number 0", x.replica(2, 30), 1);
    }

    private static void theNextPlaceAndTheDigestThatFits() {
        SpecOrder x = Scene.underALiar(3);
        Scene.lies(x, 1, 2, 0);
        Scene.lies(x, 2, 1);
        int first = x.messages();
        CHECK.due("to 1", x.lie(1, 1), true);
        CHECK.dueAll("its reply", Scene.message(x, first), 2, 1, 4, 0, 1, 3, 0);
        CHECK.due("to 2", x.lie(2, 0), true);
        CHECK.dueAll("its reply", Scene.message(x, first + 1), 2, 2, 4, 0, 0, 2, 0);
        CHECK.due("digest of 1", x.replica(1, 6), Scene.digest(2, 0, 1));
        CHECK.due("digest of 2", x.replica(2, 6), Scene.digest(1, 0));
    }

    private static void theTwelfthPlaceIsTheLast() {
        SpecOrder x = Scene.underALiar(12);
        for (int i = 11; i > 0; i--) {
            CHECK.due("lie", x.lie(3, i), true);
        }
        CHECK.due("the twelfth", x.lie(3, 0), true);
        CHECK.due("its place", x.message(x.messages() - 1, 5), 12);
        for (int i = 0; i < 12; i++) {
            CHECK.due("all are in the row", x.lie(3, i), false);
        }
        CHECK.dueAll("row", Scene.row(x, 3), 11, 10, 9, 8, 7, 6, 5, 4, 3, 2, 1, 0);
    }

    private static void whetherToHasDoneIt() {
        SpecOrder x = Scene.underALiar(2);
        Scene.lies(x, 2, 1, 0);
        int messages = x.messages();
        CHECK.due("what is last in its row", x.lie(2, 0), false);
        CHECK.due("what is first in its row", x.lie(2, 1), false);
        CHECK.due("messages", x.messages(), messages);
        CHECK.dueAll("row", Scene.row(x, 2), 1, 0);
        CHECK.due("what is in another's row", x.lie(3, 0), true);
    }

    private static void aChangingOneHasNotDoneIt() {
        SpecOrder x = Scene.wanting(1, 1);
        int first = x.messages();
        x.patience(2);
        x.patience(3);
        x.deliver(first + 2);
        CHECK.dueAll("3 is changing in view 1, the liar's", Scene.replica(x, 3), 1, 0, 0, 1, 1, 0, 7);
        int messages = x.messages();
        CHECK.due("lie", x.lie(3, 0), false);
        CHECK.dueAll("3 is as it was", Scene.replica(x, 3), 1, 0, 0, 1, 1, 0, 7);
        CHECK.due("messages", x.messages(), messages);
    }

    private static void noSuchReplica() {
        SpecOrder x = Scene.underALiar(1);
        int[] before = Scene.state(x, 1);
        for (int wrong : Scene.NO_REPLICAS) {
            CHECK.dueThrow("lie to " + wrong, Check.ARGUMENT, () -> x.lie(wrong, 0));
        }
        CHECK.dueAll("what a refused call leaves", Scene.state(x, 1), before);
    }

    private static void noSuchRequest() {
        SpecOrder x = new SpecOrder(0);
        CHECK.dueThrow("there is none at all", Check.ARGUMENT, () -> x.lie(1, 0));
        x.issue(Scene.SET, 0, 1);
        int[] before = Scene.state(x, 1);
        for (int wrong : new int[] {Integer.MIN_VALUE, -1, 1, 12, Integer.MAX_VALUE}) {
            CHECK.dueThrow("request " + wrong, Check.ARGUMENT, () -> x.lie(1, wrong));
        }
        CHECK.dueAll("what a refused call leaves", Scene.state(x, 1), before);
        SpecOrder y = Scene.underALiar(12);
        CHECK.due("request 11 of twelve", y.lie(1, 11), true);
        CHECK.dueThrow("request 12 of twelve", Check.ARGUMENT, () -> y.lie(1, 12));
    }

    private static void toIsTheFaultyOne() {
        for (int faulty = 0; faulty < 4; faulty++) {
            SpecOrder x = Scene.issued(faulty, 1);
            int same = faulty;
            CHECK.dueThrow("lie to " + faulty, Check.ARGUMENT, () -> x.lie(same, 0));
            CHECK.due("row of " + faulty, x.replica(faulty, 1), 0);
        }
    }

    private static void refusedFirst() {
        SpecOrder x = Scene.issued(-1, 1);
        CHECK.dueThrow("no faulty one, replica 4", Check.ARGUMENT, () -> x.lie(4, 0));
        CHECK.dueThrow("no faulty one, replica -1", Check.ARGUMENT, () -> x.lie(-1, 0));
        CHECK.dueThrow("no faulty one, request 1", Check.ARGUMENT, () -> x.lie(0, 1));
        SpecOrder y = Scene.issued(2, 1);
        CHECK.dueThrow("not the primary, replica 4", Check.ARGUMENT, () -> y.lie(4, 0));
        CHECK.dueThrow("not the primary, request 1", Check.ARGUMENT, () -> y.lie(0, 1));
        CHECK.dueThrow("not the primary, to itself", Check.ARGUMENT, () -> y.lie(2, 0));
    }

    private static void thereIsNoFaultyOne() {
        for (int faulty : Scene.NO_REPLICAS) {
            SpecOrder x = Scene.issued(faulty, 1);
            for (int i = 0; i < 4; i++) {
                CHECK.due("lie to " + i, x.lie(i, 0), false);
                CHECK.due("row of " + i, x.replica(i, 1), 0);
            }
            CHECK.due("messages", x.messages(), 1);
        }
    }

    private static void notThatViewsPrimary() {
        SpecOrder x = Scene.issued(1, 1);
        int[] before = Scene.state(x, 1);
        CHECK.due("1 in view 0, to 2", x.lie(2, 0), false);
        CHECK.due("1 in view 0, to the primary", x.lie(0, 0), false);
        CHECK.dueAll("what that leaves", Scene.state(x, 1), before);
        // replica 3 goes to view 1, the others stay in view 0: each one's own view counts
        SpecOrder y = Scene.wanting(0, 1);
        int first = y.messages();
        y.patience(1);
        y.patience(3);
        y.deliver(first + 2);
        CHECK.due("view of 3", y.replica(3, 0), 1);
        CHECK.due("0 in view 1, to 3", y.lie(3, 0), false);
        CHECK.due("0 in view 0, to 1", y.lie(1, 0), true);
    }
}
