/** The document's Terms: how a replica takes a NEW one, and what it is to TURN, sentence by sentence. */
public final class TermsNewTest {
    private static final Check CHECK = new Check();

    public static void main(String[] args) {
        Part part = Part.terms(CHECK, "NEW, from");
        part.test("NEW, from the primary of its view, of a view above its own", TermsNewTest::oneAboveItsOwn);
        part.test("of a view above its own", TermsNewTest::farAboveItsOwn);
        part.test("or of its own when it is changing: it TURNS to it", TermsNewTest::ofItsOwnWhenItIsChanging);
        part.test("it TURNS to it", TermsNewTest::notToOneBelowItsOwn);
        part.test("To TURN is: view, row and FIXED are those", TermsNewTest::viewRowAndFixedAreThose);
        part.test("row and FIXED are those", TermsNewTest::theRowMayShrinkToNothing);
        part.test("row and FIXED are those", TermsNewTest::asTheyWereWhenItWasSent);
        part.test("it is not changing, no one is hated", TermsNewTest::notChangingAndNoOneIsHated);
        part.test("then it replies for each request in the row, in order (the new primary, too)",
                TermsNewTest::itRepliesForEachInOrder);
        part.end();
        CHECK.end();
    }

    /** 0, 1 and 2 go to the next view; 3 gets no HATE, and its NEW is under way. */
    private static int changeWithout3(SpecOrder x) {
        int first = x.messages();
        x.patience(1);
        x.patience(2);
        // HATEs: of 1 to 0, 2, 3; of 2 to 0, 1, 3
        for (int i : new int[] {0, 1, 3, 4, 6, 7}) {
            x.deliver(first + i);
        }
        return first;
    }

    private static void oneAboveItsOwn() {
        SpecOrder x = Scene.wanting(-1, 1);
        int first = changeWithout3(x);
        CHECK.dueAll("3 knows of nothing", Scene.replica(x, 3), 0, 0, 0, 0, 1, 0, 7);
        CHECK.dueAll("NEW to 3", Scene.message(x, first + 10), 7, 1, 3, 1, -1, 0, 0);
        x.deliver(first + 10);
        CHECK.dueAll("3 turns", Scene.replica(x, 3), 1, 0, 0, 0, 1, 0, 7);
    }

    private static void farAboveItsOwn() {
        SpecOrder x = Scene.wanting(-1, 1);
        int first = changeWithout3(x);
        x.deliver(first + 8);
        x.deliver(first + 9);
        int second = x.messages();
        x.patience(1);
        x.patience(2);
        for (int i : new int[] {0, 1, 3, 4, 6, 7}) {
            x.deliver(second + i);
        }
        CHECK.due("2 has made view 2", x.replica(2, 0) == 2 && x.replica(2, 3) == 0, true);
        CHECK.dueAll("NEW to 3", Scene.lastMessage(x), 7, 2, 3, 2, -1, 0, 0);
        x.deliver(x.messages() - 1);
        CHECK.dueAll("3 turns from view 0 to view 2", Scene.replica(x, 3), 2, 0, 0, 0, 1, 0, 7);
        x.deliver(first + 10);
        CHECK.dueAll("and not back to view 1", Scene.replica(x, 3), 2, 0, 0, 0, 1, 0, 7);
    }

    private static void ofItsOwnWhenItIsChanging() {
        SpecOrder x = Scene.wanting(-1, 1);
        int first = changeWithout3(x);
        CHECK.dueAll("0 is changing in view 1", Scene.replica(x, 0), 1, 0, 0, 1, 0, 0, 7);
        x.deliver(first + 8);
        CHECK.dueAll("0 turns", Scene.replica(x, 0), 1, 0, 0, 0, 0, 0, 7);
    }

    private static void notToOneBelowItsOwn() {
        SpecOrder x = Scene.wanting(-1, 1);
        int first = changeWithout3(x);
        x.deliver(first + 10);
        x.patience(3);
        CHECK.due("HATE of view 1", Scene.pass(x, Scene.HATE, 3, 2), true);
        x.patience(2);
        CHECK.dueAll("2 goes from view 1 to view 2", Scene.replica(x, 2), 2, 0, 0, 1, 1, 0, 7);
        int messages = x.messages();
        x.deliver(first + 9);
        CHECK.dueAll("the NEW of view 1 means nothing to it", Scene.replica(x, 2), 2, 0, 0, 1, 1, 0, 7);
        CHECK.due("messages", x.messages(), messages);
    }

    private static void viewRowAndFixedAreThose() {
        // all four have request 0, 0 alone has noted its proof, and the change is made without 0
        SpecOrder x = Scene.issued(-1, 2);
        x.lose(1);
        for (int i : new int[] {0, 2, 3, 4, 5, 6, 7}) {
            x.deliver(i);
        }
        x.lose(8);
        int proof = x.messages();
        x.retry(0);
        x.deliver(proof);
        CHECK.due("FIXED of 0", x.replica(0, 2), 1);
        Scene.want(x, 1);
        int first = x.messages();
        x.patience(1);
        x.patience(2);
        for (int i : new int[] {1, 2, 4, 5}) {
            x.deliver(first + i);
        }
        Scene.pass(x, Scene.CHANGE, 2, 1);
        Scene.pass(x, Scene.CHANGE, 3, 1);
        CHECK.dueAll("1 has turned", Scene.replica(x, 1), 1, 1, 0, 0, 2, 0, 218);
        Scene.pass(x, Scene.NEW, 1, 0);
        CHECK.dueAll("0 turns, and FIXED is less than it was", Scene.replica(x, 0), 1, 1, 0, 0, 0, 0, 218);
    }

    private static void theRowMayShrinkToNothing() {
        // 0 alone has both requests, and the change is made without it
        SpecOrder x = new SpecOrder(-1);
        x.issue(Scene.SET, 0, 5);
        x.issue(Scene.SET, 3, 6);
        x.deliver(0);
        x.deliver(1);
        Scene.loseAll(x, 2);
        CHECK.dueAll("row of 0", Scene.row(x, 0), 0, 1);
        CHECK.dueAll("its numbers", Scene.numbers(x, 0), 5, 0, 0, 6);
        Scene.want(x, 1);
        int first = x.messages();
        x.patience(1);
        x.patience(2);
        for (int i : new int[] {1, 2, 4, 5}) {
            x.deliver(first + i);
        }
        Scene.pass(x, Scene.CHANGE, 2, 1);
        Scene.pass(x, Scene.CHANGE, 3, 1);
        int messages = x.messages();
        Scene.pass(x, Scene.NEW, 1, 0);
        CHECK.dueAll("0 turns", Scene.replica(x, 0), 1, 0, 0, 0, 0, 0, 7);
        CHECK.dueAll("its numbers", Scene.numbers(x, 0), 0, 0, 0, 0);
        CHECK.due("its first place", x.replica(0, 10), SpecOrder.NONE);
        CHECK.due("there is nothing to reply for", x.messages(), messages);
    }

    private static void asTheyWereWhenItWasSent() {
        SpecOrder x = Scene.wanting(-1, 1);
        int first = changeWithout3(x);
        int ask = x.messages();
        x.retry(0);
        x.deliver(ask + 1);
        CHECK.dueAll("1 has done one since", Scene.row(x, 1), 0);
        int messages = x.messages();
        x.deliver(first + 10);
        CHECK.dueAll("3 turns to an empty row", Scene.replica(x, 3), 1, 0, 0, 0, 1, 0, 7);
        CHECK.due("and has nothing to reply for", x.messages(), messages);
        x.deliver(ask + 6);
        CHECK.dueAll("then it takes the order", Scene.row(x, 3), 0);
    }

    private static void notChangingAndNoOneIsHated() {
        SpecOrder x = Scene.wanting(-1, 1);
        int first = changeWithout3(x);
        x.deliver(first + 2);
        CHECK.dueAll("3 hates 1 in view 0", Scene.replica(x, 3), 0, 0, 0, 0, 1, 2, 7);
        x.patience(0);
        CHECK.dueAll("0 hates itself in view 1", Scene.replica(x, 0), 1, 0, 0, 1, 0, 1, 7);
        x.deliver(first + 10);
        CHECK.dueAll("3 turns", Scene.replica(x, 3), 1, 0, 0, 0, 1, 0, 7);
        x.deliver(first + 8);
        CHECK.dueAll("0 turns", Scene.replica(x, 0), 1, 0, 0, 0, 0, 0, 7);
        x.deliver(first + 5);
        CHECK.due("a HATE of view 0 is of no use then", x.replica(3, 5), 0);
        theNewPrimaryHatesNoOne();
    }

    private static void theNewPrimaryHatesNoOne() {
        SpecOrder x = Scene.wanting(-1, 1);
        int first = x.messages();
        x.patience(1);
        x.patience(2);
        for (int i : new int[] {0, 1, 3, 4, 6}) {
            x.deliver(first + i);
        }
        x.patience(1);
        CHECK.dueAll("1 hates itself in view 1", Scene.replica(x, 1), 1, 0, 0, 1, 1, 2, 7);
        x.deliver(first + 7);
        CHECK.dueAll("1 turns", Scene.replica(x, 1), 1, 0, 0, 0, 1, 0, 7);
    }

    private static void itRepliesForEachInOrder() {
        SpecOrder x = Scene.issued(-1, 3);
        x.deliver(1);
        x.deliver(0);
        x.flood(3);
        x.lose(2);
        Scene.want(x, 2);
        int first = changeWithout3(x);
        int replies = first + 11;
        CHECK.dueAll("the new primary, place 1", Scene.message(x, replies), 2, 1, 4, 1, 1, 1, 0);
        CHECK.dueAll("the new primary, place 2", Scene.message(x, replies + 1), 2, 1, 4, 1, 0, 2, 0);
        CHECK.due("messages", x.messages(), replies + 2);
        x.deliver(first + 10);
        CHECK.dueAll("3, place 1", Scene.message(x, replies + 2), 2, 3, 4, 1, 1, 1, 0);
        CHECK.dueAll("3, place 2", Scene.message(x, replies + 3), 2, 3, 4, 1, 0, 2, 0);
        CHECK.due("messages", x.messages(), replies + 4);
    }
}
