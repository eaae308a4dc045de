/** The document's Terms: how a replica takes a CHANGE and makes the NEW one, sentence by sentence. */
public final class TermsChangeTest {
    private static final Check CHECK = new Check();

    public static void main(String[] args) {
        Part part = Part.terms(CHECK, "CHANGE, of");
        String kept = "CHANGE, of a view of which it is the primary and that is not below its own: it is kept";
        part.test(kept, TermsChangeTest::ofAViewAboveItsOwn);
        part.test(kept, TermsChangeTest::ofItsOwnView);
        part.test(kept, TermsChangeTest::ofAViewBelowItsOwn);
        part.test("in place of one from the same sender", TermsChangeTest::inPlaceOfOneFromTheSameSender);
        part.test("in place of one from the same sender", TermsChangeTest::thoughThatWasOfAGreaterView);
        part.test("If it is CHANGING in that view", TermsChangeTest::ifItIsChangingInThatView);
        part.test("and has kept those of three or four for it, it makes the NEW one", TermsChangeTest::threeOrFour);
        part.test("the row begins with as many of the row of the one with the greatest FIXED",
                TermsChangeTest::theGreatestFixed);
        part.test("the one with the greatest FIXED", TermsChangeTest::theGreatestFixedOfAnySender);
        part.test("(the lowest sender of several)", TermsChangeTest::theLowestSenderOfSeveral);
        part.test("as that is", TermsChangeTest::asManyAsThatIs);
        part.test("then, again and again: if two of their rows that begin with what there is so far go on with the "
                + "same request", TermsChangeTest::ifTwoGoOnWithTheSame);
        part.test("again and again", TermsChangeTest::againAndAgainUpToTwelve);
        part.test("that begin with what there is so far", TermsChangeTest::thatBeginWithWhatThereIsSoFar);
        part.test("(that of the lowest sender, if there are two such), that comes next",
                TermsChangeTest::thatOfTheLowestSender);
        part.test("It sends this row and the greatest FIXED to all, and TURNS to them",
                TermsChangeTest::itSendsThisRowAndTurns);
        part.end();
        CHECK.end();
    }

    private static void ofAViewAboveItsOwn() {
        SpecOrder x = Scene.wanting(0, 1);
        int first = x.messages();
        x.patience(2);
        x.patience(3);
        x.deliver(first + 2);
        x.deliver(first + 5);
        CHECK.due("CHANGE of 3", Scene.pass(x, Scene.CHANGE, 3, 1), true);
        CHECK.due("CHANGE of 2", Scene.pass(x, Scene.CHANGE, 2, 1), true);
        CHECK.dueAll("1 is in view 0, and seems as it was", Scene.replica(x, 1), 0, 0, 0, 0, 1, 0, 7);
        x.deliver(first + 1);
        x.deliver(first + 4);
        CHECK.dueAll("both were kept, and with its own they are three", Scene.replica(x, 1), 1, 0, 0, 0, 1, 0, 7);
    }

    private static void ofItsOwnView() {
        SpecOrder x = Scene.wanting(0, 1);
        int first = x.messages();
        x.patience(2);
        x.patience(3);
        x.deliver(first + 1);
        x.deliver(first + 4);
        CHECK.due("1 is in view 1, and changing", x.replica(1, 0) == 1 && x.replica(1, 3) == 1, true);
        x.deliver(first + 2);
        x.deliver(first + 5);
        CHECK.due("CHANGE of 3", Scene.pass(x, Scene.CHANGE, 3, 1), true);
        CHECK.due("still changing", x.replica(1, 3), 1);
        CHECK.due("CHANGE of 2", Scene.pass(x, Scene.CHANGE, 2, 1), true);
        CHECK.due("no more", x.replica(1, 3), 0);
    }

    private static void ofAViewBelowItsOwn() {
        SpecOrder x = Scene.wanting(0, 1);
        // 1, 2 and 3 go to view 5, of which 1 is the primary as it was of view 1
        for (int view = 0; view < 5; view++) {
            int first = x.messages();
            for (int i = 1; i < 4; i++) {
                x.patience(i);
            }
            // HATEs: of 1 to 0, 2, 3; of 2 to 0, 1, 3; of 3 to 0, 1, 2
            x.deliver(first + 1);
            x.deliver(first + 2);
            x.deliver(first + 4);
            CHECK.due("view of 1", x.replica(1, 0), view + 1);
            CHECK.due("view of 3", x.replica(3, 0), view + 1);
        }
        CHECK.due("CHANGE of 3 for view 5", Scene.pass(x, Scene.CHANGE, 3, 1, 5), true);
        CHECK.due("a late one of 3 for view 1", Scene.pass(x, Scene.CHANGE, 3, 1, 1), true);
        CHECK.due("1 has two, and is changing", x.replica(1, 3), 1);
        CHECK.due("CHANGE of 2 for view 5", Scene.pass(x, Scene.CHANGE, 2, 1, 5), true);
        CHECK.dueAll("the late one was not kept, so there are three", Scene.replica(x, 1), 5, 0, 0, 0, 1, 0, 7);
    }

    private static void inPlaceOfOneFromTheSameSender() {
        SpecOrder x = Scene.wanting(-1, 1);
        int first = x.messages();
        // 2 and 3 go to view 5; 1 hears of their CHANGEs, and of no HATE
        for (int view = 0; view < 5; view++) {
            int hates = x.messages();
            x.patience(2);
            x.patience(3);
            x.deliver(hates + 2);
            x.deliver(hates + 5);
            if (view == 0) {
                x.deliver(hates + 6);
                x.deliver(hates + 7);
            }
        }
        CHECK.dueAll("a CHANGE of 2 for view 5", Scene.lastMessage(x), 6, 2, 1, 5, -1, 0, 0);
        x.deliver(x.messages() - 1);
        x.patience(1);
        int messages = x.messages();
        x.deliver(first + 1);
        CHECK.dueAll("1 has those of 3 and of its own for view 1", Scene.replica(x, 1), 1, 0, 0, 1, 1, 0, 7);
        CHECK.due("so there is no NEW", x.messages(), messages);
    }

    private static void thoughThatWasOfAGreaterView() {
        SpecOrder x = Scene.wanting(0, 1);
        int first = x.messages();
        for (int view = 0; view < 5; view++) {
            int hates = x.messages();
            x.patience(2);
            x.patience(3);
            x.deliver(hates + 2);
            x.deliver(hates + 5);
        }
        int last = x.messages() - 1;
        CHECK.dueAll("a CHANGE of 2 for view 5", Scene.message(x, last), 6, 2, 1, 5, -1, 0, 0);
        x.deliver(last);
        x.deliver(last - 1);
        CHECK.dueAll("a late one of 3 for view 1", Scene.message(x, first + 6), 6, 3, 1, 1, -1, 0, 0);
        x.deliver(first + 6);
        x.deliver(first + 7);
        x.deliver(first + 1);
        x.deliver(first + 4);
        CHECK.dueAll("1 has three for view 1", Scene.replica(x, 1), 1, 0, 0, 0, 1, 0, 7);
    }

    private static void ifItIsChangingInThatView() {
        SpecOrder x = Scene.wanting(-1, 1);
        int first = x.messages();
        x.patience(2);
        x.patience(3);
        for (int i : new int[] {0, 2, 3, 5}) {
            x.deliver(first + i);
        }
        for (int i = 6; i < 9; i++) {
            CHECK.due("a CHANGE", x.message(first + i, 0), Scene.CHANGE);
            x.deliver(first + i);
        }
        CHECK.dueAll("1 has three, but is not changing", Scene.replica(x, 1), 0, 0, 0, 0, 1, 0, 7);
        CHECK.due("no NEW", x.messages(), first + 9);
        x.deliver(first + 1);
        CHECK.due("one HATE", x.messages(), first + 9);
        x.deliver(first + 4);
        CHECK.dueAll("two HATEs, and it has four at once", Scene.replica(x, 1), 1, 0, 0, 0, 1, 0, 7);
        CHECK.due("NEW to three", x.messages(), first + 12);
    }

    private static void threeOrFour() {
        SpecOrder x = Scene.wanting(-1, 1);
        int first = x.messages();
        x.patience(1);
        x.patience(2);
        for (int i = 0; i < 6; i++) {
            x.deliver(first + i);
        }
        // 6, 7 and 8 are the CHANGEs of 2, 0 and 3
        x.deliver(first + 6);
        CHECK.due("two are too few", x.replica(1, 3), 1);
        CHECK.due("messages", x.messages(), first + 9);
        x.deliver(first + 8);
        CHECK.due("three are enough", x.replica(1, 3), 0);
        CHECK.due("messages", x.messages(), first + 12);
        x.deliver(first + 7);
        CHECK.due("the fourth comes too late to mean anything", x.messages(), first + 12);
    }

    private static void theGreatestFixed() {
        SpecOrder x = unlikeRowsOfOneDigest(2);
        CHECK.dueAll("FIXED", new int[] {x.replica(1, 2), x.replica(2, 2), x.replica(3, 2)}, 0, 8, 0);
        changeOf123(x);
        for (int i = 1; i < 4; i++) {
            CHECK.dueAll("the row of 2 alone, now in " + i, Scene.row(x, i), 5, 1, 2, 0, 4, 3, 6, 7);
            CHECK.due("FIXED of " + i, x.replica(i, 2), 8);
        }
    }

    private static void theGreatestFixedOfAnySender() {
        for (int noted = 0; noted < 3; noted++) {
            // all four have request 0, one alone has noted its proof, and the change is made without 3
            SpecOrder x = Scene.issued(-1, 2);
            x.lose(1);
            for (int i : new int[] {0, 2, 3, 4, 5, 6, 7}) {
                x.deliver(i);
            }
            x.lose(8);
            int proof = x.messages();
            x.retry(0);
            x.deliver(proof + noted);
            CHECK.due("FIXED of " + noted, x.replica(noted, 2), 1);
            Scene.want(x, 1);
            int first = x.messages();
            x.patience(1);
            x.patience(2);
            for (int i : new int[] {0, 1, 3, 4, 6, 7, 8, 9, 10}) {
                x.deliver(first + i);
            }
            for (int i = 0; i < 4; i++) {
                CHECK.due("view of " + i, x.replica(i, 0), 1);
                CHECK.due("that of " + noted + ", now in " + i, x.replica(i, 2), 1);
            }
        }
    }

    private static void theLowestSenderOfSeveral() {
        SpecOrder x = unlikeRowsOfOneDigest(1, 2);
        CHECK.dueAll("FIXED", new int[] {x.replica(1, 2), x.replica(2, 2), x.replica(3, 2)}, 8, 8, 0);
        changeOf123(x);
        for (int i = 1; i < 4; i++) {
            CHECK.dueAll("the row of 1, now in " + i, Scene.row(x, i), 0, 6, 1, 11, 5, 10, 2, 7);
            CHECK.due("FIXED of " + i, x.replica(i, 2), 8);
        }
    }

    private static void asManyAsThatIs() {
        SpecOrder x = unlikeRowsOfOneDigest(2);
        Scene.lies(x, 2, 9);
        CHECK.due("row of 2", x.replica(2, 1), 9);
        changeOf123(x);
        CHECK.dueAll("the eight that are FIXED", Scene.row(x, 3), 5, 1, 2, 0, 4, 3, 6, 7);
        SpecOrder y = unlikeRowsOfOneDigest();
        changeOf123(y);
        CHECK.dueAll("nothing is FIXED", Scene.row(y, 3));
    }

    /**
     * Replicas 1 and 2 have unlike rows of the same digest with request 7 behind them, 3 has none, and of the two
     * those that are named have noted the proof for request 7. 1 and 2 want request 8.
     */
    private static SpecOrder unlikeRowsOfOneDigest(int... noted) {
        SpecOrder x = Scene.underALiar(12);
        Scene.lies(x, 1, Scene.ROW);
        Scene.lies(x, 1, 7);
        Scene.lies(x, 2, Scene.ROW_LIKE_IT);
        Scene.lies(x, 2, 7);
        x.flood(12);
        x.echo(1, 7);
        int proof = x.messages();
        CHECK.due("three equal replies", x.retry(7), 2);
        for (int i : noted) {
            x.deliver(proof + i);
        }
        Scene.loseAll(x, proof);
        Scene.wantAt(x, 1, 8);
        Scene.wantAt(x, 2, 8);
        return x;
    }

    private static void changeOf123(SpecOrder x) {
        Scene.changeView(x, 1, 2);
        CHECK.due("view of 1", x.replica(1, 0), 1);
        CHECK.due("it has turned", x.replica(1, 3), 0);
    }

    private static void ifTwoGoOnWithTheSame() {
        // two have {0, 1}, one has nothing: both come, and 2, which one alone has, does not
        SpecOrder x = Scene.underALiar(4);
        Scene.lies(x, 1, 0, 1);
        Scene.lies(x, 3, 0, 1, 2);
        Scene.want(x, 3);
        changeOf123(x);
        for (int i = 1; i < 4; i++) {
            CHECK.dueAll("row of " + i, Scene.row(x, i), 0, 1);
            CHECK.due("FIXED of " + i, x.replica(i, 2), 0);
        }
        SpecOrder y = Scene.underALiar(4);
        for (int i = 1; i < 4; i++) {
            Scene.lies(y, i, 3 - i);
        }
        Scene.want(y, 3);
        changeOf123(y);
        CHECK.dueAll("no two go on with the same", Scene.row(y, 2));
    }

    private static void againAndAgainUpToTwelve() {
        SpecOrder x = Scene.issued(-1, 12);
        x.lose(11);
        x.flood(0);
        int ask = x.messages();
        x.retry(11);
        x.deliver(ask);
        // 4, 5 and 6 are the orders of the twelfth: 3 alone gets it
        x.deliver(ask + 6);
        Scene.loseAll(x, ask + 3);
        CHECK.due("row of 3", x.replica(3, 1), 12);
        x.deliver(ask + 1);
        x.deliver(ask + 2);
        Scene.loseAll(x, ask + 9);
        int first = x.messages();
        x.patience(1);
        x.patience(2);
        for (int i : new int[] {0, 1, 2, 3, 5}) {
            x.deliver(first + i);
        }
        for (int i = 6; i < 9; i++) {
            CHECK.due("a CHANGE", x.message(first + i, 0), Scene.CHANGE);
            x.deliver(first + i);
        }
        x.deliver(first + 4);
        CHECK.due("0 and 3 go on with it, so row of 1", x.replica(1, 1), 12);
        CHECK.due("its last", x.replica(1, 21), 11);
        CHECK.due("the NEW", x.message(first + 9, 5), 12);
    }

    private static void thatBeginWithWhatThereIsSoFar() {
        // behind the common beginning of 1 and 3, rows 1 and 2 both go on with 2, but 2 began otherwise
        SpecOrder x = Scene.underALiar(4);
        Scene.lies(x, 1, 0, 2);
        Scene.lies(x, 2, 1, 2);
        Scene.lies(x, 3, 0, 1);
        Scene.want(x, 3);
        changeOf123(x);
        CHECK.dueAll("row of 2", Scene.row(x, 2), 0);
        // behind what 1 has FIXED alone, 2 and 3 go on with 9, but both began otherwise
        SpecOrder y = unlikeRowsOfOneDigest(1);
        Scene.lies(y, 2, 9);
        Scene.lies(y, 3, Scene.ROW_LIKE_IT);
        Scene.lies(y, 3, 7, 9);
        changeOf123(y);
        CHECK.dueAll("row of 2", Scene.row(y, 2), 0, 6, 1, 11, 5, 10, 2, 7);
        // a row that is shorter than what there is so far begins with nothing of it
        SpecOrder z = Scene.underALiar(4);
        Scene.lies(z, 1, 0, 1);
        Scene.lies(z, 2, 0, 1, 2);
        Scene.lies(z, 3, 0);
        Scene.want(z, 3);
        changeOf123(z);
        CHECK.dueAll("row of 3", Scene.row(z, 3), 0, 1);
    }

    private static void thatOfTheLowestSender() {
        SpecOrder x = twoAgainstTwo();
        CHECK.dueAll("0 and 3 have 0", Scene.row(x, 3), 0);
        CHECK.dueAll("1 and 2 have 1", Scene.row(x, 2), 1);
        int first = x.messages();
        x.patience(0);
        x.patience(3);
        // HATEs: of 0 to 1, 2, 3; of 3 to 0, 1, 2
        for (int i : new int[] {0, 3, 2, 4}) {
            x.deliver(first + i);
        }
        for (int i = 6; i < 9; i++) {
            CHECK.due("a CHANGE to 2", x.message(first + i, 0), Scene.CHANGE);
            x.deliver(first + i);
        }
        x.deliver(first + 1);
        CHECK.dueAll("2 is not yet changing", Scene.replica(x, 2), 1, 1, 0, 0, 0, 1, 219);
        x.deliver(first + 5);
        CHECK.dueAll("of 0, 1, 1 and 0 that of 0 comes", Scene.replica(x, 2), 2, 1, 0, 0, 0, 0, 218);
    }

    /** 0 and 3, changing in view 1, have request 0; 1 and 2, which have turned to view 1, have request 1. */
    private static SpecOrder twoAgainstTwo() {
        SpecOrder x = Scene.issued(-1, 2);
        x.deliver(0);
        x.deliver(4);
        Scene.loseAll(x, 1);
        Scene.want(x, 1);
        int first = x.messages();
        x.patience(2);
        x.patience(3);
        for (int i = 0; i < 6; i++) {
            x.deliver(first + i);
        }
        // CHANGEs of 3, 0 and 2; that of 0 is lost, so 3 alone has request 0
        x.lose(first + 7);
        x.deliver(first + 6);
        x.deliver(first + 8);
        CHECK.dueAll("row of 1", Scene.row(x, 1));
        x.deliver(first + 10);
        Scene.loseAll(x, first + 9);
        int ask = x.messages();
        x.retry(1);
        x.deliver(ask + 1);
        x.deliver(ask + 5);
        Scene.loseAll(x, ask);
        return x;
    }

    private static void itSendsThisRowAndTurns() {
        SpecOrder x = Scene.flooded(3, 3);
        x.retry(1);
        x.flood(0);
        x.issue(Scene.READ, 0, 0);
        x.lose(x.messages() - 1);
        Scene.want(x, 3);
        int first = x.messages();
        x.patience(1);
        x.patience(2);
        for (int i = 0; i < 8; i++) {
            x.deliver(first + i);
        }
        int[] to = {0, 2, 3};
        for (int i = 0; i < 3; i++) {
            CHECK.dueAll("NEW to " + to[i], Scene.message(x, first + 8 + i), 7, 1, to[i], 1, -1, 3, 0);
        }
        CHECK.dueAll("1 turns", Scene.replica(x, 1), 1, 3, 2, 0, 8, 0, Scene.digest(0, 1, 2));
        for (int i = 0; i < 3; i++) {
            CHECK.dueAll("then it replies", Scene.message(x, first + 11 + i), 2, 1, 4, 1, i, i + 1, 0);
        }
        CHECK.due("messages", x.messages(), first + 14);
        x.deliver(first + 8);
        CHECK.dueAll("0 turns to the same", Scene.replica(x, 0), 1, 3, 2, 0, 0, 0, Scene.digest(0, 1, 2));
    }
}
