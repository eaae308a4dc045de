/** The document's Terms: how a replica takes a HATE, and the end of patience, sentence by sentence. */
public final class TermsHateTest {
    private static final Check CHECK = new Check();

    public static void main(String[] args) {
        Part hate = Part.terms(CHECK, "HATE, of");
        hate.test("HATE, of its view: the sender is HATED", TermsHateTest::theSenderIsHated);
        hate.test("HATE, of its view", TermsHateTest::ofALowerView);
        hate.test("HATE, of its view", TermsHateTest::ofAGreaterView);
        hate.test("If two are: it CHANGES", TermsHateTest::ifTwoAre);
        hate.test("its view grows by 1, no one is hated, it is changing", TermsHateTest::itsViewGrowsBy1);
        hate.test("and sends the new view's primary a CHANGE with its row and FIXED", TermsHateTest::itSendsAChange);
        hate.test("with its row and FIXED", TermsHateTest::asTheyWereWhenItWasSent);
        hate.test("the new view's primary", TermsHateTest::thePrimaryOfView4Is0);
        hate.test("(which that takes at once when it is that itself)", TermsHateTest::takesItAtOnce);
        hate.end();
        Part patience = Part.terms(CHECK, "What comes into a row");
        patience.test("What comes into a row is WANTED no more", TermsHateTest::wantedNoMore);
        patience.test("A replica's PATIENCE ends: if it is changing", TermsHateTest::ifItIsChanging);
        patience.test("or something is WANTED", TermsHateTest::orSomethingIsWanted);
        patience.test("it sends HATE of its view to all", TermsHateTest::hateOfItsViewToAll);
        patience.test("and itself is HATED (which counts as above)", TermsHateTest::itselfIsHated);
        patience.test("(which counts as above)", TermsHateTest::itsOwnHateMayBringTheNewRow);
        patience.end();
        CHECK.end();
    }

    private static void theSenderIsHated() {
        SpecOrder x = Scene.wanting(-1, 1);
        int first = x.messages();
        x.patience(3);
        CHECK.dueAll("a HATE of view 0 to 1", Scene.message(x, first + 1), 5, 3, 1, 0, -1, 0, 0);
        x.deliver(first + 1);
        CHECK.dueAll("replica 1", Scene.replica(x, 1), 0, 0, 0, 0, 1, 8, 7);
        CHECK.due("nothing is sent", x.messages(), first + 3);
    }

    private static void ofALowerView() {
        SpecOrder x = Scene.wanting(-1, 1);
        int first = x.messages();
        x.patience(3);
        Scene.loseAll(x, first + 1);
        Scene.changeView(x, 1, 2);
        CHECK.due("view of 0", x.replica(0, 0), 1);
        CHECK.due("a HATE of view 0 to 0", x.deliver(first), true);
        CHECK.dueAll("means nothing", Scene.replica(x, 0), 1, 0, 0, 0, 0, 0, 7);
    }

    private static void ofAGreaterView() {
        SpecOrder x = Scene.wanting(-1, 1);
        int first = x.messages();
        x.patience(1);
        x.patience(2);
        x.deliver(first + 1);
        x.patience(2);
        CHECK.dueAll("a HATE of view 1 to 3", Scene.lastMessage(x), 5, 2, 3, 1, -1, 0, 0);
        x.deliver(x.messages() - 1);
        CHECK.dueAll("means nothing in view 0", Scene.replica(x, 3), 0, 0, 0, 0, 1, 0, 7);
    }

    private static void ifTwoAre() {
        SpecOrder x = Scene.wanting(-1, 1);
        int first = x.messages();
        x.patience(1);
        x.patience(1);
        x.patience(2);
        x.deliver(first);
        CHECK.dueAll("one", Scene.replica(x, 0), 0, 0, 0, 0, 0, 2, 7);
        x.deliver(first + 3);
        CHECK.dueAll("the same one again", Scene.replica(x, 0), 0, 0, 0, 0, 0, 2, 7);
        x.deliver(first + 6);
        CHECK.dueAll("two", Scene.replica(x, 0), 1, 0, 0, 1, 0, 0, 7);
    }

    private static void itsViewGrowsBy1() {
        SpecOrder x = Scene.wanting(-1, 1);
        // 2 and 3 go on and on, with no one to answer them
        for (int view = 1; view <= 9; view++) {
            int first = x.messages();
            x.patience(2);
            x.patience(3);
            x.deliver(first + 2);
            x.deliver(first + 5);
            Scene.loseAll(x, first);
            CHECK.dueAll("2", Scene.replica(x, 2), view, 0, 0, 1, 1, 0, 7);
            CHECK.dueAll("3", Scene.replica(x, 3), view, 0, 0, 1, 1, 0, 7);
        }
    }

    private static void itSendsAChange() {
        SpecOrder x = Scene.flooded(0, 1);
        Scene.lies(x, 1, 0);
        Scene.lies(x, 2, 0);
        x.flood(0);
        x.echo(1, 0);
        x.retry(0);
        x.flood(0);
        CHECK.due("FIXED of 2", x.replica(2, 2), 1);
        x.issue(Scene.READ, 0, 0);
        Scene.want(x, 1);
        int first = x.messages();
        x.patience(2);
        x.patience(3);
        x.deliver(first + 2);
        CHECK.dueAll("of 3, whose row is empty", Scene.lastMessage(x), 6, 3, 1, 1, -1, 0, 0);
        x.deliver(first + 5);
        CHECK.dueAll("of 2, whose row has one", Scene.lastMessage(x), 6, 2, 1, 1, -1, 1, 0);
        CHECK.due("messages", x.messages(), first + 8);
        x.flood(first);
        CHECK.dueAll("3 has got row and FIXED", Scene.replica(x, 3), 1, 1, 1, 0, 2, 0, 218);
    }

    private static void asTheyWereWhenItWasSent() {
        // 0 and 3 have request 0; all four change to view 1, and the CHANGEs to 1 are under way
        SpecOrder x = Scene.issued(-1, 2);
        x.deliver(0);
        x.deliver(4);
        Scene.loseAll(x, 1);
        Scene.want(x, 1);
        int first = x.messages();
        x.patience(2);
        x.patience(3);
        for (int i = 0; i < 6; i++) {
            x.deliver(first + i);
        }
        // meanwhile 0, 2 and 3 go on to view 2, where 2 orders request 1, too
        int second = x.messages();
        x.patience(2);
        x.patience(3);
        for (int i : new int[] {0, 2, 3, 5, 6, 7}) {
            x.deliver(second + i);
        }
        CHECK.dueAll("2 has turned to view 2", Scene.replica(x, 2), 2, 1, 0, 0, 2, 0, 218);
        Scene.pass(x, Scene.NEW, 2, 0);
        Scene.pass(x, Scene.NEW, 2, 3);
        int ask = x.messages();
        x.retry(1);
        x.deliver(ask + 2);
        Scene.pass(x, Scene.ORDER, 2, 0);
        Scene.pass(x, Scene.ORDER, 2, 3);
        CHECK.dueAll("row of 3", Scene.row(x, 3), 0, 1);
        CHECK.due("CHANGE of 0 for view 1", Scene.pass(x, Scene.CHANGE, 0, 1), true);
        CHECK.due("CHANGE of 3 for view 1", Scene.pass(x, Scene.CHANGE, 3, 1), true);
        CHECK.dueAll("1 knows of their rows in view 0 alone", Scene.replica(x, 1), 1, 1, 0, 0, 2, 0, 218);
    }

    private static void thePrimaryOfView4Is0() {
        SpecOrder x = Scene.wanting(-1, 1);
        for (int view = 1; view <= 5; view++) {
            int first = x.messages();
            x.patience(2);
            x.patience(3);
            x.deliver(first + 2);
            x.deliver(first + 5);
            int from = view % 4 == 3 ? 2 : 3;
            CHECK.dueAll("CHANGE of view " + view, Scene.message(x, first + 6), 6, from, view % 4, view, -1, 0, 0);
            Scene.loseAll(x, first);
        }
    }

    private static void takesItAtOnce() {
        SpecOrder x = Scene.wanting(-1, 1);
        int first = x.messages();
        x.patience(1);
        x.patience(2);
        x.deliver(first + 4);
        CHECK.dueAll("1 changes", Scene.replica(x, 1), 1, 0, 0, 1, 1, 0, 7);
        CHECK.due("and sends nothing", x.messages(), first + 6);
        x.deliver(first + 1);
        x.deliver(first);
        x.deliver(first + 3);
        CHECK.due("those of 2 and 0", x.messages(), first + 8);
        x.deliver(first + 6);
        x.deliver(first + 7);
        CHECK.due("with its own these are three", x.replica(1, 3), 0);
    }

    private static void wantedNoMore() {
        SpecOrder x = Scene.wanting(0, 4);
        CHECK.due("WANTED of 1", x.replica(1, 4), 15);
        Scene.lies(x, 1, 2);
        CHECK.due("by a lie", x.replica(1, 4), 11);
        Scene.lies(x, 2, 2);
        Scene.changeView(x, 1, 3);
        CHECK.dueAll("by a NEW", Scene.replica(x, 3), 1, 1, 0, 0, 11, 0, Scene.digest(2));
        int first = x.messages();
        x.retry(3);
        x.deliver(first + 1);
        CHECK.dueAll("by an ASK to the new primary", Scene.replica(x, 1), 1, 2, 0, 0, 3, 0, Scene.digest(2, 3));
        Scene.pass(x, Scene.ORDER, 1, 2);
        CHECK.dueAll("by an ORDER", Scene.replica(x, 2), 1, 2, 0, 0, 3, 0, Scene.digest(2, 3));
        CHECK.due("what comes out of a row again is not wanted", comesOut().replica(3, 4), 2);
    }

    /** Replica 3 alone has request 0, and gives it up. */
    private static SpecOrder comesOut() {
        SpecOrder x = Scene.underALiar(2);
        Scene.lies(x, 3, 0);
        Scene.want(x, 1);
        Scene.changeView(x, 1, 3);
        CHECK.dueAll("row of 3", Scene.row(x, 3));
        return x;
    }

    private static void ifItIsChanging() {
        // 0 wants nothing, but is changing
        SpecOrder x = Scene.wanting(-1, 1);
        int first = x.messages();
        x.patience(1);
        x.patience(2);
        CHECK.due("not yet", x.patience(0), false);
        x.deliver(first);
        x.deliver(first + 3);
        CHECK.dueAll("0", Scene.replica(x, 0), 1, 0, 0, 1, 0, 0, 7);
        CHECK.due("changing", x.patience(0), true);
        CHECK.due("again", x.patience(0), true);
    }

    private static void orSomethingIsWanted() {
        SpecOrder x = Scene.issued(-1, 12);
        CHECK.due("nothing", x.patience(2), false);
        Scene.wantAt(x, 2, 11);
        CHECK.due("the last request", x.patience(2), true);
        CHECK.due("nothing is wanted by 1", x.patience(1), false);
        SpecOrder y = Scene.wanting(-1, 1);
        Scene.changeView(y, 1, 2);
        CHECK.due("it is still wanted in view 1, though 1 is the primary itself", y.patience(1), true);
        y.retry(0);
        y.flood(0);
        CHECK.due("it has come into the row", y.patience(1), false);
        CHECK.due("in all rows", y.patience(3), false);
    }

    private static void hateOfItsViewToAll() {
        SpecOrder x = Scene.wanting(-1, 1);
        int first = x.messages();
        x.patience(2);
        CHECK.dueAll("to 0", Scene.message(x, first), 5, 2, 0, 0, -1, 0, 0);
        CHECK.dueAll("to 1", Scene.message(x, first + 1), 5, 2, 1, 0, -1, 0, 0);
        CHECK.dueAll("to 3", Scene.message(x, first + 2), 5, 2, 3, 0, -1, 0, 0);
        CHECK.due("messages", x.messages(), first + 3);
        x.patience(2);
        CHECK.due("again", x.messages(), first + 6);
        Scene.changeView(x, 1, 3);
        x.patience(2);
        CHECK.dueAll("in view 1", Scene.lastMessage(x), 5, 2, 3, 1, -1, 0, 0);
    }

    private static void itselfIsHated() {
        SpecOrder x = Scene.wanting(-1, 1);
        int first = x.messages();
        x.patience(2);
        CHECK.dueAll("one", Scene.replica(x, 2), 0, 0, 0, 0, 1, 4, 7);
        x.patience(2);
        CHECK.dueAll("still one", Scene.replica(x, 2), 0, 0, 0, 0, 1, 4, 7);
        x.deliver(first + 2);
        CHECK.due("3 hates 2", x.replica(3, 5), 4);
        x.patience(3);
        CHECK.dueAll("itself is the second", Scene.replica(x, 3), 1, 0, 0, 1, 1, 0, 7);
        int change = x.messages() - 1;
        CHECK.dueAll("the HATE is of the view before", Scene.message(x, change - 1), 5, 3, 2, 0, -1, 0, 0);
        CHECK.dueAll("then comes the CHANGE", Scene.message(x, change), 6, 3, 1, 1, -1, 0, 0);
    }

    private static void itsOwnHateMayBringTheNewRow() {
        SpecOrder x = Scene.wanting(0, 1);
        int first = x.messages();
        x.patience(2);
        x.patience(3);
        for (int i : new int[] {2, 5, 6, 7, 1}) {
            x.deliver(first + i);
        }
        CHECK.dueAll("1 has two changes and hates one", Scene.replica(x, 1), 0, 0, 0, 0, 1, 4, 7);
        CHECK.due("patience", x.patience(1), true);
        CHECK.dueAll("it changes and turns at once", Scene.replica(x, 1), 1, 0, 0, 0, 1, 0, 7);
        CHECK.dueAll("the last HATE", Scene.message(x, first + 10), 5, 1, 3, 0, -1, 0, 0);
        CHECK.dueAll("the first NEW", Scene.message(x, first + 11), 7, 1, 0, 1, -1, 0, 0);
        CHECK.due("messages", x.messages(), first + 14);
    }
}
