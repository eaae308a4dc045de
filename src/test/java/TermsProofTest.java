/** The document's Terms: how a replica takes a PROOF, sentence by sentence. */
public final class TermsProofTest {
    private static final Check CHECK = new Check();

    public static void main(String[] args) {
        Part part = Part.terms(CHECK, "PROOF, of");
        part.test("PROOF, of its view", TermsProofTest::ofALowerView);
        part.test("PROOF, of its view", TermsProofTest::ofAGreaterView);
        part.test("if its row is so long", TermsProofTest::itsRowIsSoLong);
        part.test("and the digest is that of so many", TermsProofTest::theDigestIsThatOfSoMany);
        part.test("FIXED becomes the place, if that is more", TermsProofTest::fixedBecomesThePlaceIfThatIsMore);
        part.test("it sends the client an ACK with the same", TermsProofTest::anAckWithTheSame);
        part.end();
        CHECK.end();
    }

    private static void ofALowerView() {
        SpecOrder x = Scene.issued(3, 2);
        x.lose(1);
        x.flood(0);
        int proof = x.messages();
        x.retry(0);
        Scene.wantAt(x, 1, 1);
        Scene.wantAt(x, 2, 1);
        Scene.changeView(x, 1, 2);
        CHECK.dueAll("1 is in view 1", Scene.replica(x, 1), 1, 1, 0, 0, 2, 0, 218);
        int messages = x.messages();
        x.deliver(proof + 1);
        CHECK.due("FIXED", x.replica(1, 2), 0);
        CHECK.due("no ack", x.messages(), messages);
        CHECK.due("retry", x.retry(0), 2);
        x.deliver(messages + 1);
        CHECK.due("one of view 1 is noted, so FIXED", x.replica(1, 2), 1);
    }

    private static void ofAGreaterView() {
        SpecOrder x = Scene.issued(-1, 2);
        x.lose(1);
        for (int i : new int[] {0, 2, 3, 4, 5, 6, 7}) {
            x.deliver(i);
        }
        x.lose(8);
        Scene.want(x, 1);
        int first = x.messages();
        x.patience(1);
        x.patience(2);
        // 0, 1 and 2 go to view 1, and 3 hears nothing of it
        for (int i : new int[] {0, 1, 3, 4, 6, 7, 8, 9, 11, 12, 13}) {
            x.deliver(first + i);
        }
        CHECK.due("three replies of view 1", x.retry(0), 2);
        int proof = x.messages() - 4;
        CHECK.dueAll("a proof to 3", Scene.message(x, proof + 3), 3, 4, 3, 1, -1, 1, 0);
        x.deliver(proof + 3);
        CHECK.dueAll("3 is in view 0, and stays as it was", Scene.replica(x, 3), 0, 1, 0, 0, 2, 0, 218);
        CHECK.due("no ack", x.messages(), proof + 4);
    }

    private static void itsRowIsSoLong() {
        SpecOrder x = Scene.issued(-1, 2);
        x.deliver(0);
        x.deliver(1);
        // the orders to 3 are 4 and 8: it gets the first alone
        x.deliver(4);
        x.lose(8);
        for (int i : new int[] {2, 3, 6, 7}) {
            x.deliver(i);
        }
        x.flood(5);
        CHECK.dueAll("row of 3", Scene.row(x, 3), 0);
        int proof = x.messages();
        CHECK.due("three have replied for request 1", x.retry(1), 2);
        x.deliver(proof + 3);
        CHECK.due("place 2 is 1 more than the row of 3 has, so FIXED", x.replica(3, 2), 0);
        CHECK.due("no ack", x.messages(), proof + 4);
        x.deliver(proof + 2);
        CHECK.due("2 has just so many", x.replica(2, 2), 2);
        CHECK.due("an ack", x.messages(), proof + 5);
    }

    private static void theDigestIsThatOfSoMany() {
        SpecOrder x = Scene.underALiar(2);
        Scene.lies(x, 1, 0, 1);
        Scene.lies(x, 2, 0);
        Scene.lies(x, 3, 1, 0);
        x.flood(2);
        x.echo(1, 0);
        int proof = x.messages();
        CHECK.due("0, 1 and 2 are equal", x.retry(0), 2);
        x.deliver(proof + 3);
        CHECK.due("3 has another request there, so FIXED", x.replica(3, 2), 0);
        CHECK.due("no ack", x.messages(), proof + 4);
        x.deliver(proof + 1);
        CHECK.due("1 has two, of which the first one counts, so FIXED", x.replica(1, 2), 1);
        x.deliver(proof + 2);
        CHECK.due("FIXED of 2", x.replica(2, 2), 1);
        CHECK.due("two acks", x.messages(), proof + 6);
    }

    private static void fixedBecomesThePlaceIfThatIsMore() {
        SpecOrder x = Scene.flooded(3, 3);
        int first = x.messages();
        x.retry(1);
        x.retry(0);
        x.retry(2);
        x.retry(2);
        int[] due = {2, 2, 3, 3};
        for (int i = 0; i < 4; i++) {
            x.deliver(first + 4 * i);
            CHECK.due("FIXED", x.replica(0, 2), due[i]);
        }
        CHECK.due("FIXED of another", x.replica(1, 2), 0);
    }

    private static void anAckWithTheSame() {
        SpecOrder x = Scene.flooded(3, 2);
        int first = x.messages();
        x.retry(1);
        x.retry(0);
        x.deliver(first);
        CHECK.dueAll("of place 2", Scene.lastMessage(x), 4, 0, 4, 0, -1, 2, 0);
        x.deliver(first + 4);
        CHECK.dueAll("of place 1, though FIXED is 2", Scene.lastMessage(x), 4, 0, 4, 0, -1, 1, 0);
        x.deliver(first + 5);
        x.deliver(first + 6);
        CHECK.due("messages", x.messages(), first + 12);
        for (int i = 9; i < 12; i++) {
            x.deliver(first + i);
        }
        CHECK.dueAll("their digest is the proof's", Scene.request(x, 0), 2, 1, 1, 3, 1);
        CHECK.due("and not that of place 2", x.request(1, 0), 1);
    }
}
