/** The document's Terms: what a replica takes at all, and how it takes an ASK, sentence by sentence. */
public final class TermsAskTest {
    private static final Check CHECK = new Check();

    public static void main(String[] args) {
        Part takes = Part.terms(CHECK, "A REPLICA takes");
        takes.test("A REPLICA takes (what is not said is nothing", TermsAskTest::whatIsNotSaidIsNothing);
        takes.test("a CHANGING one takes HATE, CHANGE and NEW alone)", TermsAskTest::aChangingOneTakesNoOther);
        takes.test("a CHANGING one takes HATE, CHANGE and NEW alone)", TermsAskTest::noOtherOfItsOwnViewEither);
        takes.test("a CHANGING one takes HATE, CHANGE and NEW alone)", TermsAskTest::aChangingOneTakesThese);
        takes.end();
        Part ask = Part.terms(CHECK, "ASK: if");
        ask.test("ASK: if the request is in its row, it replies for it", TermsAskTest::itRepliesForIt);
        ask.test("and, as primary of its view, sends the ORDER of it to all again", TermsAskTest::theOrderAgain);
        ask.test("as primary of its view", TermsAskTest::aFormerPrimaryOrdersNothing);
        ask.test("Otherwise, as primary, it puts it at the end of its row, sends the ORDER of it to all, and replies",
                TermsAskTest::atTheEndOfItsRow);
        ask.test("if not, it is WANTED", TermsAskTest::itIsWanted);
        ask.test("and it asks the primary for it", TermsAskTest::itAsksThePrimary);
        ask.test("(if that was not the sender)", TermsAskTest::ifThatWasNotTheSender);
        ask.end();
        CHECK.end();
    }

    private static void whatIsNotSaidIsNothing() {
        // the orders of place 2, of place 1, and of place 1 once more
        SpecOrder x = Scene.issued(-1, 2);
        x.retry(0);
        x.deliver(0);
        x.deliver(1);
        x.deliver(2);
        int[] before = Scene.state(x, 2);
        CHECK.due("an order of place 2 comes first", x.deliver(10), true);
        before[before.length - 7 * (x.messages() - 10) + 6] = 1;
        CHECK.dueAll("and changes nothing but its own state", Scene.state(x, 2), before);
    }

    private static void aChangingOneTakesNoOther() {
        SpecOrder x = Scene.flooded(3, 1);
        x.issue(Scene.SET, 0, 2);
        x.issue(Scene.SET, 0, 3);
        x.deliver(x.messages() - 2);
        int order = x.messages() - 4;
        CHECK.dueAll("an order", Scene.message(x, order), 1, 0, 1, 0, 1, 2, 0);
        int ask = x.messages();
        x.retry(2);
        x.deliver(ask + 1);
        x.deliver(ask + 2);
        int proof = x.messages();
        CHECK.due("retry", x.retry(0), 2);
        int hate = x.messages();
        x.patience(1);
        x.patience(2);
        x.deliver(hate + 4);
        CHECK.dueAll("1 is changing", Scene.replica(x, 1), 1, 1, 0, 1, 4, 0, 218);
        int messages = x.messages();
        CHECK.due("ORDER", x.deliver(order), true);
        CHECK.due("PROOF", x.deliver(proof + 1), true);
        x.retry(1);
        CHECK.due("ASK for what it has not", x.deliver(messages + 1), true);
        CHECK.dueAll("1 is as it was", Scene.replica(x, 1), 1, 1, 0, 1, 4, 0, 218);
        CHECK.due("only the four questions were sent", x.messages(), messages + 4);
        aChangingOneDoesNotReply();
    }

    private static void aChangingOneDoesNotReply() {
        SpecOrder x = Scene.issued(-1, 2);
        x.retry(0);
        x.deliver(0);
        x.deliver(6);
        CHECK.dueAll("row of 1", Scene.row(x, 1), 0);
        Scene.wantAt(x, 1, 1);
        Scene.wantAt(x, 2, 1);
        int first = x.messages();
        x.patience(1);
        x.patience(2);
        x.deliver(first + 4);
        CHECK.due("1 is changing", x.replica(1, 3), 1);
        int messages = x.messages();
        CHECK.due("ASK for what is in its row", x.deliver(3), true);
        CHECK.due("no reply", x.messages(), messages);
    }

    private static void noOtherOfItsOwnViewEither() {
        // all four have request 0, and go to view 1; 0, 1 and 2 turn to it, and the NEW to 3 is under way
        SpecOrder x = Scene.issued(-1, 2);
        x.lose(1);
        for (int i : new int[] {0, 2, 3, 4, 5, 6, 7}) {
            x.deliver(i);
        }
        x.lose(8);
        Scene.want(x, 1);
        int first = x.messages();
        x.patience(1);
        x.patience(2);
        for (int i = 0; i < 11; i++) {
            x.deliver(first + i);
        }
        Scene.pass(x, Scene.REPLY, 1, 4);
        Scene.pass(x, Scene.REPLY, 0, 4);
        Scene.pass(x, Scene.REPLY, 2, 4);
        CHECK.dueAll("3 is changing in view 1", Scene.replica(x, 3), 1, 1, 0, 1, 2, 0, 218);
        CHECK.due("three replies of view 1", x.retry(0), 2);
        int ask = x.messages();
        CHECK.dueAll("a PROOF of view 1 to 3", Scene.message(x, ask - 1), 3, 4, 3, 1, -1, 1, 0);
        x.retry(1);
        x.deliver(ask + 1);
        int messages = x.messages();
        CHECK.dueAll("an ORDER of view 1 to 3", Scene.message(x, ask + 6), 1, 1, 3, 1, 1, 2, 0);
        x.deliver(ask - 1);
        x.deliver(ask + 6);
        CHECK.dueAll("3 is as it was", Scene.replica(x, 3), 1, 1, 0, 1, 2, 0, 218);
        CHECK.due("no ack, and no reply", x.messages(), messages);
    }

    private static void aChangingOneTakesThese() {
        SpecOrder x = Scene.wanting(-1, 1);
        int first = x.messages();
        x.patience(1);
        x.patience(2);
        x.patience(3);
        x.deliver(first + 1);
        CHECK.due("2 is changing", x.replica(2, 3), 1);
        x.deliver(first + 4);
        CHECK.due("1 is changing", x.replica(1, 3), 1);
        x.patience(2);
        Scene.pass(x, Scene.HATE, 2, 1);
        CHECK.due("1 takes the HATE of 2", x.replica(1, 5), 4);
        x.deliver(first + 2);
        Scene.pass(x, Scene.CHANGE, 2, 1);
        Scene.pass(x, Scene.CHANGE, 3, 1);
        CHECK.due("1 takes CHANGEs, and turns", x.replica(1, 3), 0);
        Scene.pass(x, Scene.NEW, 1, 3);
        CHECK.due("3 takes the NEW, and turns", x.replica(3, 3), 0);
    }

    private static void itRepliesForIt() {
        SpecOrder x = Scene.issued(-1, 1);
        x.retry(0);
        x.deliver(0);
        // 5, 6, 7 are the orders, 8 is the reply of 0
        x.deliver(5);
        CHECK.due("messages", x.messages(), 10);
        x.deliver(2);
        CHECK.dueAll("a reply of 1", Scene.message(x, 10), 2, 1, 4, 0, 0, 1, 0);
        CHECK.due("and no order, since it is not the primary", x.messages(), 11);
        CHECK.due("nor is it wanted", x.replica(1, 4), 0);
    }

    private static void theOrderAgain() {
        SpecOrder x = Scene.issued(-1, 2);
        x.retry(0);
        x.deliver(0);
        x.deliver(1);
        Scene.loseAll(x, 6);
        x.deliver(2);
        int first = 14;
        CHECK.dueAll("a reply", Scene.message(x, first), 2, 0, 4, 0, 0, 1, 0);
        for (int i = 1; i < 4; i++) {
            CHECK.dueAll("order to " + i, Scene.message(x, first + i), 1, 0, i, 0, 0, 1, 0);
        }
        CHECK.due("messages", x.messages(), first + 4);
        CHECK.dueAll("row of 0", Scene.row(x, 0), 0, 1);
        x.deliver(first + 3);
        CHECK.dueAll("the digest is that of its place, so row of 3", Scene.row(x, 3), 0);
    }

    private static void aFormerPrimaryOrdersNothing() {
        SpecOrder x = Scene.issued(-1, 2);
        x.retry(0);
        x.lose(1);
        x.deliver(0);
        x.flood(6);
        Scene.want(x, 1);
        Scene.changeView(x, 1, 2);
        CHECK.dueAll("0 is in view 1", Scene.replica(x, 0), 1, 1, 0, 0, 0, 0, 218);
        int messages = x.messages();
        x.deliver(2);
        CHECK.dueAll("its reply", Scene.message(x, messages), 2, 0, 4, 1, 0, 1, 0);
        CHECK.due("and no order", x.messages(), messages + 1);
        x.deliver(3);
        CHECK.dueAll("the reply of 1, the primary now", Scene.message(x, messages + 1), 2, 1, 4, 1, 0, 1, 0);
        CHECK.dueAll("its order to 0", Scene.message(x, messages + 2), 1, 1, 0, 1, 0, 1, 0);
        CHECK.due("messages", x.messages(), messages + 5);
    }

    private static void atTheEndOfItsRow() {
        SpecOrder x = Scene.issued(-1, 12);
        for (int i = 0; i < 12; i++) {
            x.deliver(11 - i);
            int first = 12 + 4 * i;
            for (int to = 1; to < 4; to++) {
                CHECK.dueAll("order to " + to, Scene.message(x, first + to - 1), 1, 0, to, 0, 11 - i, i + 1, 0);
            }
            CHECK.dueAll("reply", Scene.message(x, first + 3), 2, 0, 4, 0, 11 - i, i + 1, 0);
        }
        CHECK.due("messages", x.messages(), 60);
        CHECK.dueAll("row", Scene.row(x, 0), 11, 10, 9, 8, 7, 6, 5, 4, 3, 2, 1, 0);
    }

    private static void itIsWanted() {
        SpecOrder x = Scene.issued(-1, 3);
        x.retry(2);
        x.deliver(5);
        CHECK.dueAll("replica 2", Scene.replica(x, 2), 0, 0, 0, 0, 4, 0, 7);
        x.retry(0);
        x.deliver(10);
        CHECK.due("one more", x.replica(2, 4), 5);
        x.retry(2);
        x.deliver(x.messages() - 2);
        CHECK.due("the same one again", x.replica(2, 4), 5);
        CHECK.due("what the primary has is not wanted by it", x.deliver(0) && x.replica(0, 4) == 0, true);
    }

    private static void itAsksThePrimary() {
        SpecOrder x = Scene.issued(-1, 1);
        x.retry(0);
        x.deliver(4);
        CHECK.dueAll("3 asks 0", Scene.message(x, 5), 0, 3, 0, 0, 0, 0, 0);
        x.retry(0);
        x.deliver(9);
        CHECK.dueAll("asked again, it asks again", Scene.message(x, 10), 0, 3, 0, 0, 0, 0, 0);
        CHECK.due("messages", x.messages(), 11);
        x.deliver(5);
        CHECK.dueAll("the primary takes it like the client's", Scene.row(x, 0), 0);
    }

    private static void ifThatWasNotTheSender() {
        SpecOrder x = Scene.issued(-1, 1);
        x.lose(0);
        x.retry(0);
        x.lose(1);
        x.deliver(2);
        x.deliver(3);
        x.lose(4);
        CHECK.dueAll("1 asks 0", Scene.message(x, 5), 0, 1, 0, 0, 0, 0, 0);
        CHECK.dueAll("2 asks 0", Scene.message(x, 6), 0, 2, 0, 0, 0, 0, 0);
        Scene.changeView(x, 1, 2);
        x.flood(7);
        CHECK.dueAll("0 is in view 1, whose primary is 1", Scene.replica(x, 0), 1, 0, 0, 0, 0, 0, 7);
        int messages = x.messages();
        x.deliver(5);
        CHECK.due("WANTED of 0", x.replica(0, 4), 1);
        CHECK.due("1 itself asked, so 0 does not ask it", x.messages(), messages);
        x.deliver(6);
        CHECK.dueAll("2 asked, so 0 asks 1", Scene.message(x, messages), 0, 0, 1, 0, 0, 0, 0);
    }
}
