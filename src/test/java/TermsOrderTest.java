/** The document's Terms: how a replica takes an ORDER, sentence by sentence. */
public final class TermsOrderTest {
    private static final Check CHECK = new Check();

    public static void main(String[] args) {
        Part part = Part.terms(CHECK, "ORDER, from");
        part.test("ORDER, from the primary of its view, of its view", TermsOrderTest::ofALowerView);
        part.test("ORDER, from the primary of its view, of its view", TermsOrderTest::ofAGreaterView);
        part.test("if the place is 1 more than its row's length", TermsOrderTest::thePlaceIsTooGreat);
        part.test("if the place is 1 more than its row's length", TermsOrderTest::thePlaceIsTooSmall);
        part.test("the request is not in its row", TermsOrderTest::theRequestIsInItsRow);
        part.test("and the digest is that of its row with it", TermsOrderTest::theDigestIsThatOfItsRowWithIt);
        part.test("it puts it at the end, and replies", TermsOrderTest::itPutsItAtTheEndAndReplies);
        part.end();
        CHECK.end();
    }

    private static void ofALowerView() {
        SpecOrder x = Scene.issued(-1, 1);
        x.retry(0);
        x.deliver(0);
        CHECK.dueAll("an order to 2 in view 0", Scene.message(x, 6), 1, 0, 2, 0, 0, 1, 0);
        x.deliver(2);
        x.deliver(3);
        x.deliver(4);
        int first = x.messages();
        x.patience(1);
        x.patience(2);
        // replica 0, whose row has the request, hears nothing of it
        x.lose(first);
        x.lose(first + 3);
        x.deliver(first + 1);
        x.deliver(first + 2);
        x.deliver(first + 4);
        x.deliver(first + 5);
        x.flood(first + 6);
        CHECK.dueAll("2 is in view 1", Scene.replica(x, 2), 1, 0, 0, 0, 1, 0, 7);
        int messages = x.messages();
        x.deliver(6);
        CHECK.dueAll("2 is as it was", Scene.replica(x, 2), 1, 0, 0, 0, 1, 0, 7);
        CHECK.due("no reply", x.messages(), messages);
    }

    private static void ofAGreaterView() {
        SpecOrder x = Scene.wanting(-1, 1);
        int first = x.messages();
        x.patience(1);
        x.patience(2);
        x.lose(first + 2);
        x.lose(first + 5);
        for (int i = 0; i < 8; i++) {
            x.deliver(first + i);
        }
        CHECK.due("1 has made view 1", x.replica(1, 3) == 0 && x.replica(1, 0) == 1, true);
        int ask = x.messages();
        x.retry(0);
        x.deliver(ask + 1);
        CHECK.dueAll("its order to 3", Scene.message(x, ask + 6), 1, 1, 3, 1, 0, 1, 0);
        int messages = x.messages();
        x.deliver(ask + 6);
        CHECK.dueAll("3 is in view 0, and stays as it was", Scene.replica(x, 3), 0, 0, 0, 0, 1, 0, 7);
        CHECK.due("no reply", x.messages(), messages);
    }

    private static void thePlaceIsTooGreat() {
        SpecOrder x = Scene.issued(-1, 3);
        x.deliver(0);
        x.deliver(1);
        x.deliver(2);
        // orders to 1: 3 of place 1, 7 of place 2, 11 of place 3
        x.deliver(7);
        CHECK.dueAll("place 2 of an empty row", Scene.replica(x, 1), 0, 0, 0, 0, 0, 0, 7);
        x.deliver(3);
        x.deliver(11);
        CHECK.dueAll("place 3 of a row of one", Scene.row(x, 1), 0);
        CHECK.due("one reply", x.messages(), 16);
    }

    private static void thePlaceIsTooSmall() {
        SpecOrder x = Scene.issued(-1, 2);
        x.retry(0);
        x.deliver(0);
        x.deliver(1);
        x.deliver(2);
        // orders to 1: 6 of place 1, 10 of place 2, 15 of place 1 again
        x.deliver(6);
        int messages = x.messages();
        x.deliver(15);
        CHECK.dueAll("place 1 of a row of one", Scene.row(x, 1), 0);
        CHECK.due("no second reply", x.messages(), messages);
        x.deliver(10);
        CHECK.dueAll("place 2", Scene.row(x, 1), 0, 1);
    }

    private static void theRequestIsInItsRow() {
        SpecOrder x = Scene.underALiar(3);
        Scene.lies(x, 1, 0, 1, 2);
        int messages = x.messages();
        for (int i = 0; i < 3; i++) {
            CHECK.due("a lie of " + i, x.lie(1, i), false);
        }
        CHECK.dueAll("row", Scene.row(x, 1), 0, 1, 2);
        CHECK.due("messages", x.messages(), messages);
    }

    /** An ORDER that does not fit can't come about: the liar's always fit, and so do those of the others. */
    private static void theDigestIsThatOfItsRowWithIt() {
        SpecOrder x = Scene.underALiar(3);
        Scene.lies(x, 1, 2, 1);
        Scene.lies(x, 2, 1, 2);
        CHECK.due("to 1", x.lie(1, 0), true);
        CHECK.due("to 2", x.lie(2, 0), true);
        CHECK.due("digest of 1", x.replica(1, 6), Scene.digest(2, 1, 0));
        CHECK.due("digest of 2", x.replica(2, 6), Scene.digest(1, 2, 0));
    }

    private static void itPutsItAtTheEndAndReplies() {
        SpecOrder x = Scene.issued(-1, 12);
        x.flood(0);
        CHECK.dueAll("row of 3", Scene.row(x, 3), 0, 1, 2, 3, 4, 5, 6, 7, 8, 9, 10, 11);
        SpecOrder y = Scene.issued(-1, 2);
        y.deliver(1);
        y.deliver(0);
        y.deliver(4);
        y.deliver(8);
        CHECK.dueAll("row of 3", Scene.row(y, 3), 1, 0);
        CHECK.dueAll("first reply", Scene.message(y, 10), 2, 3, 4, 0, 1, 1, 0);
        CHECK.dueAll("second reply", Scene.message(y, 11), 2, 3, 4, 0, 0, 2, 0);
        CHECK.due("its number 0", y.replica(3, 30), 2);
    }
}
