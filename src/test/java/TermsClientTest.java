/** The document's Terms: the client, sentence by sentence. */
public final class TermsClientTest {
    private static final Check CHECK = new Check();

    public static void main(String[] args) {
        Part part = Part.terms(CHECK, "THE CLIENT has");
        part.test("THE CLIENT has OPEN requests, and DONE ones", TermsClientTest::whatIsDoneStaysSo);
        part.test("It keeps the latest REPLY for each request from each replica", TermsClientTest::theLatestReply);
        part.test("unless it has one from it for that of a greater view", TermsClientTest::unlessOfAGreaterView);
        part.test("and the latest ACK from each", TermsClientTest::theLatestAckFromEach);
        part.test("Its VIEW is the greatest of any REPLY that came", TermsClientTest::theGreatestOfAnyReply);
        part.test("(0 at first)", TermsClientTest::zeroAtFirst);
        String equal = "An open request is DONE, with the result and place, when REPLIES from all four are kept for it "
                + "that are equal (in all)";
        part.test(equal, TermsClientTest::equalRepliesFromAllFour);
        part.test(equal, TermsClientTest::notWithAnotherPlace);
        part.test(equal, TermsClientTest::notWithAnotherDigest);
        part.test(equal, TermsClientTest::notWithAnotherView);
        part.test(equal, TermsClientTest::notWithAnotherResult);
        part.test("or when a PROOF was sent for it", TermsClientTest::notWithoutAProofForIt);
        part.test("and ACKs of three", TermsClientTest::acksOfThree);
        part.test("with just that (the latest PROOF) are kept", TermsClientTest::justTheLatestProof);
        part.test("then with the result of the REPLIES by which it was sent", TermsClientTest::theResultOfThoseReplies);
        part.test("then with the result of the REPLIES by which it was sent", TermsClientTest::thoughLaterOnesAreKept);
        part.test("It is looked at whenever a REPLY for it", TermsClientTest::wheneverAReplyForItComes);
        part.test("or any ACK comes", TermsClientTest::wheneverAnyAckComes);
        part.end();
        CHECK.end();
    }

    private static void whatIsDoneStaysSo() {
        SpecOrder x = Scene.flooded(3, 2);
        x.echo(0, 0);
        CHECK.dueAll("done by four", Scene.request(x, 0), 2, 1, 1, 4, 0);
        CHECK.due("the other is open", x.request(1, 0), 1);
        x.issue(Scene.READ, 0, 0);
        x.lose(x.messages() - 1);
        Scene.want(x, 2);
        Scene.changeView(x, 1, 2);
        CHECK.due("other replies are kept now", x.view(), 1);
        CHECK.dueAll("it stays done", Scene.request(x, 0), 2, 1, 1, 4, 0);
    }

    private static void theLatestReply() {
        SpecOrder x = Scene.underALiar(2);
        Scene.lies(x, 1, 0);
        Scene.lies(x, 2, 0);
        Scene.lies(x, 3, 1, 0);
        x.flood(2);
        CHECK.due("replies for 0", x.request(0, 3), 3);
        CHECK.due("replies for 1", x.request(1, 3), 1);
        x.echo(1, 0);
        CHECK.due("0, 1 and 2 are equal", x.retry(0), 2);
        x.echo(3, 0);
        CHECK.due("the later one of 0 is like that of 3", x.retry(0), 1);
        CHECK.due("one is kept from each", x.request(0, 3), 4);
        x.echo(2, 0);
        CHECK.due("and a later one still", x.retry(0), 2);
    }

    private static void unlessOfAGreaterView() {
        SpecOrder x = Scene.underALiar(2);
        int late = x.messages();
        x.lie(1, 1);
        x.lie(2, 0);
        x.lie(3, 0);
        Scene.wantAt(x, 1, 0);
        Scene.wantAt(x, 2, 1);
        Scene.changeView(x, 1, 2);
        CHECK.due("replies of view 1", x.request(0, 3), 3);
        CHECK.dueAll("a late reply of view 0", Scene.message(x, late + 1), 2, 2, 4, 0, 0, 1, 0);
        x.deliver(late + 1);
        CHECK.due("it is not kept, so three are equal", x.retry(0), 2);
        CHECK.due("of view", x.message(x.messages() - 1, 3), 1);
        CHECK.dueAll("a late reply for request 1", Scene.message(x, late), 2, 1, 4, 0, 1, 1, 0);
        x.deliver(late);
        CHECK.due("there is none of a greater view for that, so it is kept", x.request(1, 3), 1);
    }

    private static void theLatestAckFromEach() {
        SpecOrder x = Scene.flooded(3, 2);
        int first = x.messages();
        x.retry(0);
        x.retry(1);
        for (int i = 0; i < 8; i++) {
            x.deliver(first + i);
        }
        // 8, 9 and 10 are the acks for request 0, 11, 12 and 13 those for request 1
        x.deliver(first + 8);
        x.deliver(first + 9);
        x.deliver(first + 11);
        x.deliver(first + 10);
        CHECK.due("the ack of 0 gave way to a later one", x.request(0, 0), 1);
        x.deliver(first + 12);
        CHECK.due("two for request 1", x.request(1, 0), 1);
        x.deliver(first + 13);
        CHECK.due("three for request 1", x.request(1, 0), 2);
        CHECK.due("request 0 is still open", x.request(0, 0), 1);
        CHECK.due("retry", x.retry(0), 2);
        x.flood(first);
        CHECK.due("request 0", x.request(0, 0), 2);
    }

    private static void theGreatestOfAnyReply() {
        SpecOrder x = Scene.issued(-1, 2);
        x.lose(1);
        x.deliver(0);
        x.flood(2);
        Scene.want(x, 1);
        int first = x.messages();
        x.patience(1);
        x.patience(2);
        for (int i : new int[] {0, 1, 3, 4, 6, 7}) {
            x.deliver(first + i);
        }
        CHECK.dueAll("1 replies in view 1", Scene.lastMessage(x), 2, 1, 4, 1, 0, 1, 0);
        CHECK.due("it has not come", x.view(), 0);
        x.deliver(x.messages() - 1);
        CHECK.due("it has come, for a request that is done", x.view(), 1);
        aReplyOfALowerView();
    }

    private static void aReplyOfALowerView() {
        SpecOrder x = Scene.underALiar(2);
        int late = x.messages();
        for (int i = 1; i < 4; i++) {
            Scene.lies(x, i, 0);
        }
        Scene.want(x, 1);
        Scene.changeView(x, 1, 2);
        CHECK.due("view", x.view(), 1);
        x.deliver(late);
        CHECK.due("a reply of view 0 does not take it back", x.view(), 1);
    }

    private static void zeroAtFirst() {
        SpecOrder x = new SpecOrder(-1);
        CHECK.due("view", x.view(), 0);
        x.issue(Scene.SET, 0, 0);
        CHECK.due("so it asks", x.message(0, 2), 0);
    }

    private static void equalRepliesFromAllFour() {
        SpecOrder x = Scene.issued(-1, 2);
        x.deliver(1);
        x.deliver(0);
        x.flood(2);
        CHECK.dueAll("request 1", Scene.request(x, 1), 2, 1, 1, 4, 0);
        CHECK.dueAll("request 0", Scene.request(x, 0), 2, 2, 2, 4, 0);
        SpecOrder y = Scene.flooded(2, 1);
        CHECK.dueAll("three", Scene.request(y, 0), 1, 0, 0, 3, 0);
        y.echo(0, 0);
        CHECK.dueAll("and that of the faulty one", Scene.request(y, 0), 2, 1, 1, 4, 0);
    }

    private static void notWithAnotherPlace() {
        SpecOrder x = new SpecOrder(0);
        x.issue(Scene.READ, 0, 0);
        x.issue(Scene.READ, 0, 0);
        Scene.lies(x, 1, 0);
        Scene.lies(x, 2, 0);
        Scene.lies(x, 3, 1, 0);
        x.flood(0);
        x.echo(1, 0);
        CHECK.dueAll("three and one", Scene.request(x, 0), 1, 0, 0, 4, 0);
        x.echo(3, 0);
        CHECK.dueAll("two and two", Scene.request(x, 0), 1, 0, 0, 4, 0);
    }

    private static void notWithAnotherDigest() {
        // request 2 gives 0 at place 2 of all rows
        SpecOrder x = Scene.issued(0, 2);
        x.issue(Scene.READ, 3, 0);
        Scene.lies(x, 1, 0, 2);
        Scene.lies(x, 2, 0, 2);
        Scene.lies(x, 3, 1, 2);
        x.flood(0);
        x.echo(2, 2);
        CHECK.dueAll("three and one", Scene.request(x, 2), 1, 0, 0, 4, 0);
        CHECK.due("retry", x.retry(2), 2);
    }

    private static void notWithAnotherView() {
        SpecOrder x = Scene.underALiar(2);
        for (int i = 1; i < 4; i++) {
            Scene.lies(x, i, 0);
        }
        x.flood(2);
        Scene.want(x, 1);
        int first = x.messages();
        x.patience(1);
        x.patience(2);
        for (int i : new int[] {1, 2, 4, 5}) {
            x.deliver(first + i);
        }
        Scene.pass(x, Scene.CHANGE, 2, 1);
        Scene.pass(x, Scene.CHANGE, 3, 1);
        Scene.pass(x, Scene.REPLY, 1, 4);
        CHECK.due("1 has replied in view 1, as it had in view 0", x.view(), 1);
        x.echo(2, 0);
        CHECK.dueAll("three of view 0 and one of view 1", Scene.request(x, 0), 1, 0, 0, 4, 0);
        CHECK.due("retry", x.retry(0), 2);
        CHECK.due("with view", x.message(x.messages() - 1, 3), 0);
    }

    /** Unlike rows of the same digest; request 7, behind them, tells how many of them each has added. */
    private static SpecOrder unlikeRowsOfOneDigest() {
        SpecOrder x = new SpecOrder(0);
        for (int i = 0; i < 12; i++) {
            x.issue(i == 7 ? Scene.READ : Scene.ADD, 0, i == 11 ? 100 : 1);
        }
        Scene.lies(x, 1, Scene.ROW_LIKE_IT);
        Scene.lies(x, 1, 7);
        for (int i = 2; i < 4; i++) {
            Scene.lies(x, i, Scene.ROW);
            Scene.lies(x, i, 7);
        }
        x.flood(0);
        CHECK.due("digests", x.replica(1, 6) == x.replica(2, 6), true);
        CHECK.due("number of 1", x.replica(1, 30), 7);
        CHECK.due("number of 2", x.replica(2, 30), 106);
        return x;
    }

    private static void notWithAnotherResult() {
        SpecOrder x = unlikeRowsOfOneDigest();
        CHECK.due("two and one", x.retry(7), 1);
        x.echo(3, 7);
        CHECK.dueAll("three and one", Scene.request(x, 7), 1, 0, 0, 4, 0);
        CHECK.due("retry", x.retry(7), 2);
        x.echo(1, 7);
        CHECK.dueAll("two and two", Scene.request(x, 7), 1, 0, 0, 4, 1);
        CHECK.due("retry", x.retry(7), 1);
    }

    private static void notWithoutAProofForIt() {
        SpecOrder x = unlikeRowsOfOneDigest();
        // requests 6 and 2 stand at place 7 of rows of the same digest, so their proofs and acks are the same
        x.echo(2, 2);
        int proof = x.messages();
        CHECK.due("0, 2 and 3 are equal for request 2", x.retry(2), 2);
        x.flood(proof);
        CHECK.dueAll("request 2, by the acks of 1, 2 and 3", Scene.request(x, 2), 2, 106, 7, 4, 1);
        CHECK.dueAll("request 6, for which no proof was sent", Scene.request(x, 6), 1, 0, 0, 3, 0);
    }

    private static void acksOfThree() {
        SpecOrder x = Scene.flooded(3, 1);
        int proof = x.messages();
        x.retry(0);
        for (int i = 0; i < 4; i++) {
            x.deliver(proof + i);
        }
        CHECK.due("three acks, and none of the faulty one", x.messages(), proof + 7);
        x.deliver(proof + 4);
        CHECK.due("one", x.request(0, 0), 1);
        x.deliver(proof + 5);
        CHECK.due("two", x.request(0, 0), 1);
        x.retry(0);
        x.deliver(proof + 7);
        x.deliver(x.messages() - 1);
        CHECK.due("the same one again", x.request(0, 0), 1);
        x.deliver(proof + 6);
        CHECK.dueAll("three", Scene.request(x, 0), 2, 1, 1, 3, 1);
    }

    /** Request 0 has a proof of view 0, whose acks are under way; then comes view 1, with replies for it. */
    private static SpecOrder proofOfView0() {
        SpecOrder x = Scene.flooded(3, 1);
        x.retry(0);
        for (int i = 7; i < 11; i++) {
            x.deliver(i);
        }
        CHECK.due("11, 12 and 13 are the acks", x.messages(), 14);
        x.issue(Scene.READ, 0, 0);
        x.lose(14);
        Scene.want(x, 1);
        Scene.changeView(x, 1, 2);
        CHECK.due("replies of view 1 have come", x.view(), 1);
        return x;
    }

    private static void justTheLatestProof() {
        SpecOrder x = proofOfView0();
        int proof = x.messages();
        CHECK.due("a proof of view 1", x.retry(0), 2);
        for (int i = 11; i < 14; i++) {
            x.deliver(i);
        }
        CHECK.dueAll("acks of view 0 are no longer enough", Scene.request(x, 0), 1, 0, 0, 3, 1);
        x.flood(proof);
        CHECK.dueAll("acks of view 1 are", Scene.request(x, 0), 2, 1, 1, 3, 1);
        SpecOrder y = Scene.flooded(3, 2);
        y.retry(1);
        int other = y.messages();
        y.retry(0);
        y.lose(other - 4);
        y.flood(0);
        CHECK.due("acks for place 2 of two, so request 1", y.request(1, 0), 1);
        CHECK.due("acks for place 1 of three, so request 0", y.request(0, 0), 2);
    }

    private static void thoughLaterOnesAreKept() {
        SpecOrder x = proofOfView0();
        for (int i = 11; i < 14; i++) {
            CHECK.due("open", x.request(0, 0), 1);
            x.deliver(i);
        }
        CHECK.dueAll("the latest proof is that of view 0", Scene.request(x, 0), 2, 1, 1, 3, 1);
    }

    private static void theResultOfThoseReplies() {
        SpecOrder x = unlikeRowsOfOneDigest();
        x.echo(2, 7);
        int proof = x.messages();
        CHECK.due("0, 2 and 3 are equal", x.retry(7), 2);
        x.echo(1, 7);
        x.flood(proof);
        CHECK.due("1, which has another row, has noted it, too", x.replica(1, 2), 8);
        CHECK.dueAll("the result is that of 2 and 3", Scene.request(x, 7), 2, 106, 8, 4, 1);
    }

    private static void wheneverAReplyForItComes() {
        SpecOrder x = Scene.issued(-1, 2);
        x.deliver(0);
        x.deliver(1);
        for (int i = 2; i < 10; i++) {
            x.deliver(i);
        }
        // 10, 11 and 12 are the replies of 1, 2 and 3 for request 0, 13, 14 and 15 those for request 1
        for (int i = 10; i < 16; i++) {
            x.deliver(i);
            CHECK.due("request 0 after message " + i, x.request(0, 0), i < 12 ? 1 : 2);
            CHECK.due("request 1 after message " + i, x.request(1, 0), i < 15 ? 1 : 2);
        }
    }

    private static void wheneverAnyAckComes() {
        SpecOrder x = Scene.flooded(3, 2);
        int proof = x.messages();
        x.retry(1);
        for (int i = 0; i < 6; i++) {
            x.deliver(proof + i);
            CHECK.due("after message " + i, x.request(1, 0), 1);
        }
        x.deliver(proof + 6);
        CHECK.due("the third ack has come", x.request(1, 0), 2);
        CHECK.due("request 0 has no proof", x.request(0, 0), 1);
    }
}
