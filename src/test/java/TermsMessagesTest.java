/** The document's Terms: messages, sentence by sentence. */
public final class TermsMessagesTest {
    private static final Check CHECK = new Check();

    public static void main(String[] args) {
        Part part = Part.terms(CHECK, "MESSAGES are numbered");
        part.test("MESSAGES are numbered 0, 1, .. as they are sent", TermsMessagesTest::asTheyAreSent);
        part.test("at most 600", TermsMessagesTest::atMost600);
        String lost = "(what would be sent then is lost)";
        part.test(lost, TermsMessagesTest::questionsAreLost);
        part.test(lost, TermsMessagesTest::ordersAndRepliesAreLost);
        part.test(lost, TermsMessagesTest::aLiesReplyIsLostAndAnEchoIsNone);
        part.test(lost, TermsMessagesTest::proofsAndAcksAreLost);
        part.test(lost, TermsMessagesTest::hatesAndChangesAreLost);
        part.test(lost, TermsMessagesTest::aNewRowIsLost);
        part.test("each may be delivered once, or lost", TermsMessagesTest::deliveredOnceOrLost);
        part.test("Kinds (from a replica or the client to another one", TermsMessagesTest::toAnotherOne);
        part.test("\"to all\": to each replica but the sender, ascending)", TermsMessagesTest::toAll);
        part.test("0 ASK a request", TermsMessagesTest::ask);
        part.test("1 ORDER: view, place n (from 1 on), request, digest of the row up to this place",
                TermsMessagesTest::order);
        part.test("2 REPLY: the same, and the result", TermsMessagesTest::reply);
        part.test("3 PROOF and 4 ACK: view, place, digest", TermsMessagesTest::proofAndAck);
        part.test("5 HATE: view", TermsMessagesTest::hate);
        part.test("6 CHANGE and 7 NEW: view, a row, FIXED", TermsMessagesTest::changeAndNew);
        part.test("To REPLY for a request in its row, a replica sends the client its view, its place there, the "
                + "digest up to it, its result", TermsMessagesTest::toReplyForARequestInItsRow);
        part.end();
        CHECK.end();
    }

    private static void asTheyAreSent() {
        SpecOrder x = Scene.issued(-1, 2);
        CHECK.due("message 0", x.message(0, 4), 0);
        CHECK.due("message 1", x.message(1, 4), 1);
        x.deliver(1);
        CHECK.dueAll("message 2", Scene.message(x, 2), 1, 0, 1, 0, 1, 1, 0);
        x.deliver(0);
        CHECK.dueAll("message 6", Scene.message(x, 6), 1, 0, 1, 0, 0, 2, 0);
        x.lose(6);
        x.patience(0);
        x.retry(0);
        CHECK.dueAll("message 10", Scene.message(x, 10), 0, 4, 0, 0, 0, 0, 0);
    }

    private static void atMost600() {
        SpecOrder x = Scene.issued(-1, 1);
        Scene.fill(x, 0, 598);
        CHECK.due("messages", x.messages(), 598);
        CHECK.due("retry", x.retry(0), 1);
        CHECK.due("two of four were sent", x.messages(), 600);
        CHECK.dueAll("message 598", Scene.message(x, 598), 0, 4, 0, 0, 0, 0, 0);
        CHECK.dueAll("message 599", Scene.message(x, 599), 0, 4, 1, 0, 0, 0, 0);
        CHECK.dueThrow("message 600", Check.ELEMENT, () -> x.message(600, 0));
        CHECK.due("deliver(600)", x.deliver(600), false);
        CHECK.due("lose(600)", x.lose(600), false);
        CHECK.due("flood(600)", x.flood(600), 0);
        CHECK.due("deliver(599)", x.deliver(599), true);
        CHECK.due("WANTED of 1", x.replica(1, 4), 1);
        CHECK.due("lose(598)", x.lose(598), true);
        CHECK.due("flood(0)", x.flood(0), 598);
    }

    private static void questionsAreLost() {
        SpecOrder x = Scene.issued(-1, 1);
        Scene.fill(x, 0, 599);
        CHECK.due("issue, whose question is the last", x.issue(Scene.SET, 0, 1) > 0, true);
        CHECK.due("messages", x.messages(), 600);
        int number = x.issue(Scene.SET, 0, 1);
        CHECK.due("the next one is there", x.request(number, 0), 1);
        CHECK.due("but was not asked for", x.messages(), 600);
        CHECK.due("the last question is that before", x.message(599, 4), number - 1);
        CHECK.due("retry", x.retry(number), 1);
        CHECK.due("messages", x.messages(), 600);
        x.flood(0);
        CHECK.due("it comes into no row", x.retry(number), 1);
        CHECK.due("WANTED of 1", x.replica(1, 4) >> number & 1, 0);
    }

    private static void ordersAndRepliesAreLost() {
        SpecOrder x = Scene.issued(-1, 2);
        Scene.fill(x, 1, 598);
        x.deliver(0);
        CHECK.dueAll("the primary does it", Scene.replica(x, 0), 0, 1, 0, 0, 0, 0, 218);
        CHECK.dueAll("order to 1", Scene.message(x, 598), 1, 0, 1, 0, 0, 1, 0);
        CHECK.dueAll("order to 2", Scene.message(x, 599), 1, 0, 2, 0, 0, 1, 0);
        CHECK.due("that to 3 and the reply are lost", x.messages(), 600);
        x.deliver(599);
        CHECK.dueAll("2 does it, too", Scene.row(x, 2), 0);
        CHECK.due("and its reply is lost", x.messages(), 600);
        x.flood(598);
        CHECK.due("replies", x.request(0, 3), 0);
    }

    private static void aLiesReplyIsLostAndAnEchoIsNone() {
        SpecOrder x = Scene.underALiar(2);
        Scene.lies(x, 1, 0);
        x.deliver(2);
        Scene.fill(x, 1, 600);
        CHECK.due("lie", x.lie(2, 0), true);
        CHECK.dueAll("row of 2", Scene.row(x, 2), 0);
        CHECK.due("messages", x.messages(), 600);
        CHECK.due("echo", x.echo(1, 0), true);
        CHECK.due("replies", x.request(0, 3), 2);
        CHECK.due("no such reply, since it was lost", x.echo(2, 0), false);
    }

    private static void proofsAndAcksAreLost() {
        SpecOrder x = Scene.flooded(3, 1);
        x.issue(Scene.READ, 0, 0);
        Scene.fill(x, 1, 599);
        CHECK.due("retry", x.retry(0), 2);
        CHECK.dueAll("the proof to 0 is the last", Scene.message(x, 599), 3, 4, 0, 0, -1, 1, 0);
        CHECK.due("it was sent", x.request(0, 4), 1);
        x.deliver(599);
        CHECK.due("FIXED of 0", x.replica(0, 2), 1);
        CHECK.due("its ack is lost", x.messages(), 600);
        CHECK.due("retry", x.retry(0), 2);
        CHECK.due("messages", x.messages(), 600);
        CHECK.due("FIXED of 1", x.replica(1, 2), 0);
        CHECK.due("request 0", x.request(0, 0), 1);
    }

    private static void hatesAndChangesAreLost() {
        SpecOrder x = Scene.wanting(-1, 1);
        int first = x.messages();
        x.patience(1);
        x.patience(2);
        Scene.fill(x, 0, 600);
        CHECK.due("patience", x.patience(3), true);
        CHECK.due("HATED of 3, by itself", x.replica(3, 5), 8);
        CHECK.due("no one else hears of it", x.messages(), 600);
        x.deliver(first + 1);
        CHECK.dueAll("2 changes", Scene.replica(x, 2), 1, 0, 0, 1, 1, 0, 7);
        CHECK.due("and its CHANGE is lost", x.messages(), 600);
        x.deliver(first + 4);
        CHECK.dueAll("1 changes, and takes its own", Scene.replica(x, 1), 1, 0, 0, 1, 1, 0, 7);
        x.deliver(first + 2);
        CHECK.dueAll("3 changes", Scene.replica(x, 3), 1, 0, 0, 1, 1, 0, 7);
        CHECK.due("messages", x.messages(), 600);
    }

    private static void aNewRowIsLost() {
        SpecOrder x = Scene.wanting(-1, 1);
        int first = x.messages();
        x.patience(1);
        x.patience(2);
        for (int i = 0; i < 6; i++) {
            x.deliver(first + i);
        }
        Scene.fill(x, 0, 599);
        x.deliver(first + 6);
        x.deliver(first + 7);
        CHECK.dueAll("1 turns", Scene.replica(x, 1), 1, 0, 0, 0, 1, 0, 7);
        CHECK.dueAll("the NEW to 0 is the last", Scene.message(x, 599), 7, 1, 0, 1, -1, 0, 0);
        CHECK.due("messages", x.messages(), 600);
        x.deliver(599);
        CHECK.due("0 turns", x.replica(0, 3), 0);
        x.flood(first);
        CHECK.due("2 never does", x.replica(2, 3), 1);
        CHECK.due("nor does 3", x.replica(3, 3), 1);
    }

    private static void deliveredOnceOrLost() {
        SpecOrder x = Scene.issued(-1, 2);
        CHECK.due("deliver(0)", x.deliver(0), true);
        CHECK.due("deliver(0) again", x.deliver(0), false);
        CHECK.due("lose(0)", x.lose(0), false);
        CHECK.due("lose(1)", x.lose(1), true);
        CHECK.due("lose(1) again", x.lose(1), false);
        CHECK.due("deliver(1)", x.deliver(1), false);
        CHECK.due("message 0", x.message(0, 6), 1);
        CHECK.due("message 1", x.message(1, 6), 2);
        CHECK.dueAll("row of 0", Scene.row(x, 0), 0);
    }

    private static void toAnotherOne() {
        SpecOrder x = Scene.issued(-1, 1);
        x.retry(0);
        x.lose(0);
        x.lose(1);
        x.flood(2);
        Scene.changeView(x, 1, 3);
        x.retry(0);
        x.flood(0);
        int messages = x.messages();
        CHECK.due("messages", messages > 20 && messages < 120, true);
        for (int i = 0; i < messages; i++) {
            int from = x.message(i, 1);
            int to = x.message(i, 2);
            CHECK.due("message " + i + " goes to another one", from != to, true);
            CHECK.due("both are among 0 .. 4", from >= 0 && from <= 4 && to >= 0 && to <= 4, true);
        }
    }

    private static void toAll() {
        SpecOrder x = Scene.issued(-1, 1);
        x.retry(0);
        for (int i = 0; i < 4; i++) {
            CHECK.due("from the client to", x.message(1 + i, 2), i);
        }
        x.deliver(0);
        for (int i = 1; i < 4; i++) {
            CHECK.due("from 0 to", x.message(4 + i, 2), i);
        }
        SpecOrder y = Scene.wanting(-1, 1);
        int first = y.messages();
        y.patience(2);
        y.patience(3);
        int[] due = {0, 1, 3, 0, 1, 2};
        for (int i = 0; i < 6; i++) {
            CHECK.due("from 2, then from 3 to", y.message(first + i, 2), due[i]);
        }
        CHECK.due("messages", y.messages(), first + 6);
    }

    private static void ask() {
        SpecOrder x = Scene.issued(-1, 3);
        CHECK.dueAll("from the client", Scene.message(x, 2), 0, 4, 0, 0, 2, 0, 0);
        x.retry(1);
        x.deliver(6);
        CHECK.dueAll("from a replica", Scene.message(x, 7), 0, 3, 0, 0, 1, 0, 0);
    }

    private static void order() {
        SpecOrder x = Scene.issued(-1, 2);
        x.deliver(1);
        x.deliver(0);
        CHECK.dueAll("place 1", Scene.message(x, 2), 1, 0, 1, 0, 1, 1, 0);
        CHECK.dueAll("place 2", Scene.message(x, 6), 1, 0, 1, 0, 0, 2, 0);
        x.deliver(2);
        x.deliver(6);
        CHECK.due("its digest fits, so digest of 1", x.replica(1, 6), Scene.digest(1, 0));
    }

    private static void reply() {
        SpecOrder x = new SpecOrder(-1);
        x.issue(Scene.SET, 3, 5);
        x.issue(Scene.SET, 3, 6);
        x.flood(0);
        CHECK.dueAll("of 0", Scene.message(x, 5), 2, 0, 4, 0, 0, 1, 1);
        CHECK.dueAll("of 0, place 2", Scene.message(x, 9), 2, 0, 4, 0, 1, 2, 1);
        CHECK.due("the result", x.request(1, 1), 5);
    }

    private static void proofAndAck() {
        SpecOrder x = Scene.flooded(3, 2);
        int first = x.messages();
        x.retry(1);
        x.deliver(first + 2);
        CHECK.dueAll("PROOF", Scene.message(x, first + 2), 3, 4, 2, 0, -1, 2, 1);
        CHECK.dueAll("ACK", Scene.message(x, first + 4), 4, 2, 4, 0, -1, 2, 0);
    }

    private static void hate() {
        SpecOrder x = Scene.wanting(-1, 1);
        Scene.changeView(x, 1, 2);
        x.patience(3);
        CHECK.dueAll("HATE", Scene.lastMessage(x), 5, 3, 2, 1, -1, 0, 0);
    }

    private static void changeAndNew() {
        SpecOrder x = Scene.flooded(3, 2);
        x.retry(0);
        x.flood(0);
        x.issue(Scene.READ, 0, 0);
        x.lose(x.messages() - 1);
        Scene.want(x, 2);
        int first = x.messages();
        Scene.changeView(x, 1, 2);
        CHECK.dueAll("CHANGE", Scene.message(x, first + 6), 6, 2, 1, 1, -1, 2, 1);
        CHECK.dueAll("NEW", Scene.message(x, first + 8), 7, 1, 0, 1, -1, 2, 1);
        CHECK.dueAll("the row", Scene.row(x, 2), 0, 1);
        CHECK.due("FIXED", x.replica(2, 2), 1);
    }

    private static void toReplyForARequestInItsRow() {
        SpecOrder x = new SpecOrder(-1);
        x.issue(Scene.ADD, 0, 5);
        x.retry(0);
        x.deliver(0);
        // 5, 6, 7 are the orders, 8 the reply of 0
        x.flood(5);
        CHECK.due("all four have replied", x.request(0, 0), 2);
        SpecOrder y = new SpecOrder(3);
        y.issue(Scene.ADD, 0, 5);
        y.retry(0);
        y.issue(Scene.ADD, 0, 7);
        y.deliver(0);
        // 6, 7, 8 are the orders, 9 the reply of 0, which is lost, as is that of 1
        y.deliver(6);
        y.deliver(7);
        y.lose(9);
        y.lose(10);
        y.deliver(11);
        int second = y.messages();
        y.deliver(5);
        y.deliver(second);
        y.deliver(second + 1);
        CHECK.dueAll("0 has done another since", Scene.row(y, 0), 0, 1);
        y.deliver(1);
        CHECK.due("a reply to the question that came late", y.message(y.messages() - 4, 0), 2);
        CHECK.due("its place", y.message(y.messages() - 4, 5), 1);
        y.deliver(y.messages() - 4);
        y.deliver(2);
        CHECK.dueAll("1 replies, too", Scene.lastMessage(y), 2, 1, 4, 0, 0, 1, 0);
        y.deliver(y.messages() - 1);
        CHECK.due("all three are equal", y.retry(0), 2);
        y.flood(y.messages() - 4);
        CHECK.dueAll("the result is that of then", Scene.request(y, 0), 2, 5, 1, 3, 1);
    }
}
