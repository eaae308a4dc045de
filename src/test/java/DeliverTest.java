/** Promise 4 further on: what a replica and the client do with each kind of message. */
public final class DeliverTest {
    private static final Check CHECK = new Check();

    public static void main(String[] args) {
        ask();
        askOfThePrimary();
        order();
        proof();
        hate();
        change();
        earlyChange();
        changeGreatestFixed();
        changeSplit();
        changeInPlaceOfAnother();
        changeLowerThanItsOwn();
        changesOfFullRows();
        newToOneBehind();
        lateReply();
        toAChangingOne();
        CHECK.end();
    }

    private static void ask() {
        CHECK.about("promise 4, ASK");
        SpecOrder x = new SpecOrder(-1);
        x.issue(Scene.SET, 0, 1);
        x.retry(0);
        x.deliver(3);
        CHECK.dueAll("replica 2 asks the primary", Scene.message(x, 5), 0, 2, 0, 0, 0, 0, 0);
        CHECK.dueAll("and wants it", Scene.replica(x, 2), 0, 0, 0, 0, 1, 0, 7);
        x.deliver(0);
        CHECK.dueAll("the primary has it", Scene.replica(x, 0), 0, 1, 0, 0, 0, 0, 218);
        for (int i = 1; i < 4; i++) {
            CHECK.dueAll("order", Scene.message(x, 5 + i), 1, 0, i, 0, 0, 1, 0);
        }
        CHECK.dueAll("reply", Scene.message(x, 9), 2, 0, 4, 0, 0, 1, 0);
        x.deliver(5);
        CHECK.dueAll("asked again, it replies", Scene.message(x, 10), 2, 0, 4, 0, 0, 1, 0);
        for (int i = 1; i < 4; i++) {
            CHECK.dueAll("and orders it again", Scene.message(x, 10 + i), 1, 0, i, 0, 0, 1, 0);
        }
        x.deliver(12);
        CHECK.dueAll("what is in the row is wanted no more", Scene.replica(x, 2), 0, 1, 0, 0, 0, 0, 218);
        CHECK.due("one order and the reply to it, so messages", x.messages(), 15);
        x.deliver(7);
        CHECK.due("the same order again means nothing, so messages", x.messages(), 15);
        x.deliver(1);
        CHECK.due("reply and three orders, so messages", x.messages(), 19);
        SpecOrder y = new SpecOrder(-1);
        y.issue(Scene.SET, 0, 1);
        y.deliver(0);
        y.deliver(1);
        y.retry(0);
        y.deliver(7);
        CHECK.dueAll("one that is not the primary replies, no more", Scene.message(y, 10), 2, 1, 4, 0, 0, 1, 0);
        CHECK.due("messages", y.messages(), 11);
    }

    private static void askOfThePrimary() {
        CHECK.about("promise 4, ASK of the primary");
        SpecOrder x = new SpecOrder(-1);
        x.issue(Scene.SET, 0, 1);
        x.lose(0);
        x.retry(0);
        x.lose(1);
        x.deliver(2);
        x.deliver(3);
        x.lose(4);
        CHECK.dueAll("replica 1 asks 0", Scene.message(x, 5), 0, 1, 0, 0, 0, 0, 0);
        x.lose(6);
        Scene.changeView(x, 1, 2);
        CHECK.dueAll("replica 0", Scene.replica(x, 0), 1, 0, 0, 0, 0, 0, 7);
        int messages = x.messages();
        x.deliver(5);
        CHECK.dueAll("wants it now", Scene.replica(x, 0), 1, 0, 0, 0, 1, 0, 7);
        CHECK.due("and does not ask back, so messages", x.messages(), messages);
    }

    private static void order() {
        CHECK.about("promise 4, ORDER");
        SpecOrder x = new SpecOrder(-1);
        x.issue(Scene.SET, 0, 1);
        x.issue(Scene.SET, 0, 2);
        x.deliver(0);
        x.deliver(1);
        // 2 .. 4 are the orders of request 0, 6 .. 8 those of request 1
        x.deliver(6);
        CHECK.due("place 2 before place 1 means nothing", x.replica(1, 1), 0);
        CHECK.due("so messages", x.messages(), 10);
        x.deliver(2);
        CHECK.dueAll("place 1", Scene.row(x, 1), 0);
        CHECK.due("digest", x.replica(1, 6), 218);
        x.retry(1);
        x.deliver(11);
        x.deliver(16);
        CHECK.dueAll("place 2, ordered again", Scene.row(x, 1), 0, 1);
        CHECK.due("digest", x.replica(1, 6), 6760);
        SpecOrder y = new SpecOrder(-1);
        y.issue(Scene.SET, 0, 1);
        y.issue(Scene.SET, 0, 2);
        y.retry(0);
        y.deliver(0);
        CHECK.dueAll("an order of view 0", Scene.message(y, 6), 1, 0, 1, 0, 0, 1, 0);
        y.deliver(3);
        y.deliver(4);
        y.deliver(5);
        Scene.loseAll(y, 10);
        Scene.changeView(y, 1, 2);
        CHECK.due("view of replica 1", y.replica(1, 0), 1);
        int messages = y.messages();
        y.deliver(6);
        y.deliver(7);
        CHECK.dueAll("an order of an older view means nothing", Scene.row(y, 2));
        CHECK.due("so messages", y.messages(), messages);
    }

    private static void proof() {
        CHECK.about("promise 4, PROOF");
        SpecOrder x = new SpecOrder(3);
        x.issue(Scene.SET, 0, 1);
        x.issue(Scene.SET, 0, 2);
        x.flood(0);
        x.retry(1);
        int second = x.messages();
        x.retry(0);
        x.deliver(second - 4);
        CHECK.due("FIXED", x.replica(0, 2), 2);
        x.deliver(second);
        CHECK.due("FIXED does not shrink", x.replica(0, 2), 2);
        CHECK.dueAll("but there is an ack", Scene.message(x, x.messages() - 1), 4, 0, 4, 0, -1, 1, 0);
        x.deliver(second + 1);
        CHECK.due("FIXED of replica 1, the first of two", x.replica(1, 2), 1);
        x.deliver(second - 3);
        CHECK.due("FIXED of replica 1", x.replica(1, 2), 2);
        // replicas 0 and 1 have sent an ack for place 1, then or before one for place 2
        x.deliver(second + 2);
        x.deliver(second + 5);
        x.deliver(second + 6);
        x.deliver(second + 8);
        CHECK.dueAll("request 0 by three acks", Scene.request(x, 0), 2, 0, 1, 3, 1);
        CHECK.due("request 1 is open", x.request(1, 0), 1);
        x.deliver(second - 2);
        x.deliver(second + 4);
        x.deliver(second + 7);
        x.deliver(second + 9);
        CHECK.dueAll("request 1 by three acks", Scene.request(x, 1), 2, 1, 2, 3, 1);
        latestAckAlone();
        proofOfAnotherView();
    }

    private static void latestAckAlone() {
        CHECK.about("promise 4, ACK");
        SpecOrder x = new SpecOrder(3);
        x.issue(Scene.SET, 0, 1);
        x.issue(Scene.SET, 0, 2);
        x.flood(0);
        int first = x.messages();
        x.retry(0);
        x.retry(1);
        for (int i = 0; i < 8; i++) {
            x.deliver(first + i);
        }
        // the acks: 8, 9, 10 of request 0 and 11, 12, 13 of request 1
        x.deliver(first + 8);
        x.deliver(first + 9);
        x.deliver(first + 11);
        x.deliver(first + 10);
        CHECK.due("the ack of replica 0 gave way to a later one", x.request(0, 0), 1);
        x.deliver(first + 12);
        x.deliver(first + 13);
        CHECK.due("request 1", x.request(1, 0), 2);
        CHECK.due("request 0 is still open", x.request(0, 0), 1);
        CHECK.due("retry", x.retry(0), 2);
        x.flood(0);
        CHECK.due("request 0", x.request(0, 0), 2);
    }

    private static void proofOfAnotherView() {
        CHECK.about("promise 4, PROOF of another view");
        SpecOrder x = new SpecOrder(3);
        x.issue(Scene.SET, 0, 1);
        x.issue(Scene.SET, 0, 2);
        x.lose(1);
        x.flood(0);
        x.retry(0);
        int proof = x.messages() - 4;
        Scene.wantAt(x, 1, 1);
        Scene.wantAt(x, 2, 1);
        Scene.changeView(x, 1, 2);
        CHECK.dueAll("replica 1", Scene.replica(x, 1), 1, 1, 0, 0, 2, 0, 218);
        int messages = x.messages();
        x.deliver(proof + 1);
        CHECK.due("FIXED", x.replica(1, 2), 0);
        CHECK.due("messages", x.messages(), messages);
        CHECK.due("retry", x.retry(0), 2);
        CHECK.dueAll("proof of view 1", Scene.message(x, messages), 3, 4, 0, 1, -1, 1, 0);
        x.flood(messages);
        CHECK.dueAll("request 0", Scene.request(x, 0), 2, 0, 1, 3, 1);
    }

    private static void hate() {
        CHECK.about("promise 4, HATE");
        SpecOrder x = Scene.wanting(-1, 1);
        int first = x.messages();
        x.patience(1);
        x.patience(1);
        x.deliver(first);
        x.deliver(first + 3);
        CHECK.dueAll("the same one twice", Scene.replica(x, 0), 0, 0, 0, 0, 0, 2, 7);
        x.patience(2);
        x.deliver(first + 6);
        CHECK.dueAll("two", Scene.replica(x, 0), 1, 0, 0, 1, 0, 0, 7);
        CHECK.dueAll("its change", Scene.message(x, first + 9), 6, 0, 1, 1, -1, 0, 0);
        x.deliver(first + 7);
        CHECK.dueAll("replica 1 is the new primary and takes its own", Scene.replica(x, 1), 1, 0, 0, 1, 1, 0, 7);
        CHECK.due("so messages", x.messages(), first + 10);
        CHECK.dueAll("replica 2 hates itself", Scene.replica(x, 2), 0, 0, 0, 0, 1, 4, 7);
        x.patience(0);
        CHECK.dueAll("hate of view 1", Scene.message(x, first + 10), 5, 0, 1, 1, -1, 0, 0);
        x.deliver(first + 11);
        CHECK.dueAll("means nothing in view 0", Scene.replica(x, 2), 0, 0, 0, 0, 1, 4, 7);
        x.deliver(first + 10);
        CHECK.due("replica 1 hates replica 0 in view 1", x.replica(1, 5), 1);
        x.patience(1);
        CHECK.dueAll("a changing one changes again", Scene.replica(x, 1), 2, 0, 0, 1, 1, 0, 7);
        CHECK.dueAll("its change", Scene.message(x, x.messages() - 1), 6, 1, 2, 2, -1, 0, 0);
        x.deliver(first + 1);
        CHECK.dueAll("replica 2", Scene.replica(x, 2), 1, 0, 0, 1, 1, 0, 7);
    }

    private static void change() {
        CHECK.about("promise 4, CHANGE");
        SpecOrder x = Scene.wanting(-1, 1);
        int first = x.messages();
        x.patience(1);
        x.patience(2);
        for (int i = 0; i < 6; i++) {
            x.deliver(first + i);
        }
        // replicas 2, 0 and 3 send their changes, replica 1 keeps its own
        CHECK.dueAll("of 2", Scene.message(x, first + 6), 6, 2, 1, 1, -1, 0, 0);
        CHECK.dueAll("of 0", Scene.message(x, first + 7), 6, 0, 1, 1, -1, 0, 0);
        CHECK.dueAll("of 3", Scene.message(x, first + 8), 6, 3, 1, 1, -1, 0, 0);
        x.deliver(first + 6);
        CHECK.due("two are too few", x.messages(), first + 9);
        CHECK.due("changing", x.replica(1, 3), 1);
        x.deliver(first + 8);
        CHECK.dueAll("three are enough", Scene.replica(x, 1), 1, 0, 0, 0, 1, 0, 7);
        CHECK.dueAll("new to 0", Scene.message(x, first + 9), 7, 1, 0, 1, -1, 0, 0);
        CHECK.dueAll("new to 2", Scene.message(x, first + 10), 7, 1, 2, 1, -1, 0, 0);
        CHECK.dueAll("new to 3", Scene.message(x, first + 11), 7, 1, 3, 1, -1, 0, 0);
        CHECK.due("messages", x.messages(), first + 12);
        x.deliver(first + 7);
        CHECK.due("the fourth means nothing", x.messages(), first + 12);
        x.deliver(first + 10);
        CHECK.dueAll("replica 2 has turned", Scene.replica(x, 2), 1, 0, 0, 0, 1, 0, 7);
        CHECK.due("replica 3 has not", x.replica(3, 3), 1);
    }

    private static void earlyChange() {
        CHECK.about("promise 4, CHANGE before the new primary changes");
        SpecOrder x = Scene.wanting(-1, 1);
        int first = x.messages();
        x.patience(2);
        x.patience(3);
        x.deliver(first);
        x.deliver(first + 2);
        x.deliver(first + 3);
        // 0 and 3 have changed, and 2 does now; replica 1 has heard of no hate
        x.deliver(first + 5);
        for (int i = 6; i < 9; i++) {
            CHECK.due("change " + i, x.message(first + i, 0), 6);
            x.deliver(first + i);
        }
        CHECK.dueAll("replica 1", Scene.replica(x, 1), 0, 0, 0, 0, 1, 0, 7);
        CHECK.due("messages", x.messages(), first + 9);
        x.deliver(first + 1);
        x.deliver(first + 4);
        CHECK.dueAll("replica 1, with all four at once", Scene.replica(x, 1), 1, 0, 0, 0, 1, 0, 7);
        CHECK.due("messages", x.messages(), first + 12);
    }

    private static void changeGreatestFixed() {
        CHECK.about("promise 4, CHANGE with FIXED");
        SpecOrder x = new SpecOrder(-1);
        x.issue(Scene.SET, 0, 5);
        x.issue(Scene.ADD, 0, 1);
        x.issue(Scene.ADD, 0, 2);
        x.lose(2);
        x.deliver(0);
        x.deliver(1);
        // orders of 0: 3, 4, 5; of 1: 7, 8, 9. Replica 3 gets none, replica 2 only the first
        x.deliver(3);
        x.deliver(7);
        x.deliver(4);
        CHECK.dueAll("row of 1", Scene.row(x, 1), 0, 1);
        CHECK.dueAll("row of 2", Scene.row(x, 2), 0);
        for (int i = 10; i < x.messages(); i++) {
            x.deliver(i);
        }
        x.deliver(6);
        int proof = x.messages();
        CHECK.due("three have replied for 0", x.retry(0), 2);
        x.deliver(proof + 2);
        CHECK.due("FIXED of 2", x.replica(2, 2), 1);
        Scene.loseAll(x, 0);
        Scene.wantAt(x, 2, 2);
        Scene.wantAt(x, 3, 2);
        int first = x.messages();
        x.patience(2);
        x.patience(3);
        // replicas 1, 2, 3 change, not replica 0
        x.deliver(first + 1);
        x.deliver(first + 4);
        x.deliver(first + 2);
        x.deliver(first + 5);
        Scene.loseAll(x, 0);
        CHECK.due("1 is changing", x.replica(1, 3), 1);
        // their changes were lost: one more round brings them to view 2
        first = x.messages();
        x.patience(1);
        x.patience(3);
        x.deliver(first + 1);
        x.deliver(first + 4);
        x.deliver(first + 5);
        x.deliver(first + 2);
        CHECK.due("2 is in view", x.replica(2, 0), 2);
        x.flood(first + 6);
        CHECK.dueAll("2 has made the row of its FIXED", Scene.replica(x, 2), 2, 1, 1, 0, 4, 0, 218);
        CHECK.dueAll("1 gave up what no one else had", Scene.replica(x, 1), 2, 1, 1, 0, 0, 0, 218);
        CHECK.due("and its number", x.replica(1, 30), 5);
        CHECK.dueAll("3 has it, too", Scene.replica(x, 3), 2, 1, 1, 0, 4, 0, 218);
        CHECK.due("client's view", x.view(), 2);
    }

    private static void changeSplit() {
        CHECK.about("promise 4, CHANGE two against two");
        SpecOrder x = new SpecOrder(-1);
        x.issue(Scene.SET, 0, 1);
        x.issue(Scene.SET, 1, 2);
        x.deliver(0);
        x.deliver(4);
        Scene.loseAll(x, 0);
        CHECK.dueAll("row of 3, as of 0", Scene.row(x, 3), 0);
        for (int i = 1; i < 4; i++) {
            Scene.wantAt(x, i, 1);
        }
        int first = x.messages();
        x.patience(2);
        x.patience(3);
        for (int i = 0; i < 6; i++) {
            x.deliver(first + i);
        }
        // the changes are those of 3, 0 and 2, in this order; that of 0 is lost
        CHECK.dueAll("change of 0", Scene.message(x, first + 7), 6, 0, 1, 1, -1, 1, 0);
        x.lose(first + 7);
        x.deliver(first + 6);
        x.deliver(first + 8);
        CHECK.dueAll("only 3 has it, so row of 1", Scene.row(x, 1));
        int fresh = x.messages() - 3;
        x.deliver(fresh + 1);
        Scene.loseAll(x, 0);
        int ask = x.messages();
        x.retry(1);
        x.deliver(ask + 1);
        CHECK.dueAll("order to 2", Scene.message(x, ask + 5), 1, 1, 2, 1, 1, 1, 0);
        x.deliver(ask + 5);
        Scene.loseAll(x, 0);
        CHECK.dueAll("row of 2, as of 1", Scene.row(x, 2), 1);
        // 0 and 3 are still changing in view 1, with row 0; all but 2 go on, then 2 itself
        first = x.messages();
        x.patience(0);
        x.patience(3);
        x.deliver(first);
        x.deliver(first + 3);
        x.deliver(first + 2);
        x.deliver(first + 4);
        for (int i = 6; i < 9; i++) {
            CHECK.due("change to 2", x.message(first + i, 0), 6);
            x.deliver(first + i);
        }
        x.deliver(first + 1);
        CHECK.dueAll("2 is not yet changing", Scene.replica(x, 2), 1, 1, 0, 0, 0, 1, 219);
        x.deliver(first + 5);
        CHECK.dueAll("of 0 1 1 0 that of the lowest comes, row of 2", Scene.row(x, 2), 0);
        CHECK.dueAll("state of 2", Scene.replica(x, 2), 2, 1, 0, 0, 0, 0, 218);
        splitRows();
    }

    private static void changeInPlaceOfAnother() {
        CHECK.about("promise 4, CHANGE in place of another");
        SpecOrder x = Scene.wanting(-1, 1);
        // replicas 2 and 3 go from view to view; 1 hears of their changes, but of no hate
        for (int view = 0; view < 5; view++) {
            int first = x.messages();
            x.patience(2);
            x.patience(3);
            x.deliver(first + 2);
            x.deliver(first + 5);
            CHECK.due("view of 2", x.replica(2, 0), view + 1);
            if (view == 0) {
                CHECK.dueAll("change of 3", Scene.message(x, first + 6), 6, 3, 1, 1, -1, 0, 0);
                x.deliver(first + 6);
                x.deliver(first + 7);
            }
        }
        int last = x.messages() - 1;
        CHECK.dueAll("change of 2", Scene.message(x, last), 6, 2, 1, 5, -1, 0, 0);
        x.deliver(last);
        int first = x.messages();
        x.patience(1);
        CHECK.due("hate of 2 in view 0", x.deliver(Scene.find(x, Scene.HATE, 2, 1, 0)), true);
        CHECK.dueAll("1 has only that of 3 and its own for view 1", Scene.replica(x, 1), 1, 0, 0, 1, 1, 0, 7);
        CHECK.due("so there is no new one", x.messages(), first + 3);
    }

    private static void splitRows() {
        SpecOrder x = new SpecOrder(0);
        for (int i = 0; i < 4; i++) {
            x.issue(Scene.SET, i, 1 + i);
        }
        Scene.loseAll(x, 0);
        int[][] lies = {{1, 0}, {1, 2}, {2, 1}, {2, 2}, {3, 0}, {3, 1}};
        for (int[] lie : lies) {
            CHECK.due("lie", x.lie(lie[0], lie[1]), true);
        }
        Scene.loseAll(x, 0);
        Scene.wantAt(x, 1, 3);
        Scene.wantAt(x, 2, 3);
        Scene.changeView(x, 1, 2);
        for (int i = 1; i < 4; i++) {
            CHECK.dueAll("what 1 and 3 begin with, and no more, row of " + i, Scene.row(x, i), 0);
        }
        CHECK.due("2 has its number no more", x.replica(2, 31), 0);
        CHECK.due("2 does not want what it gave up", x.replica(2, 4), 8);
    }

    private static void changeLowerThanItsOwn() {
        CHECK.about("promise 4, CHANGE of a lower view");
        SpecOrder x = Scene.wanting(0, 1);
        for (int view = 0; view < 5; view++) {
            for (int i = 1; i < 4; i++) {
                x.patience(i);
            }
            x.deliver(Scene.find(x, Scene.HATE, 2, 1, view));
            x.deliver(Scene.find(x, Scene.HATE, 1, 2, view));
            x.deliver(Scene.find(x, Scene.HATE, 1, 3, view));
            CHECK.due("view of 1", x.replica(1, 0), view + 1);
        }
        CHECK.due("change of 3 for view 5", x.deliver(Scene.find(x, Scene.CHANGE, 3, 1, 5)), true);
        CHECK.due("late change of 3 for view 1", x.deliver(Scene.find(x, Scene.CHANGE, 3, 1, 1)), true);
        CHECK.due("two are kept, so it is changing", x.replica(1, 3), 1);
        CHECK.due("change of 2 for view 5", x.deliver(Scene.find(x, Scene.CHANGE, 2, 1, 5)), true);
        CHECK.dueAll("the late one was not kept, so there are three", Scene.replica(x, 1), 5, 0, 0, 0, 1, 0, 7);
    }

    private static void changesOfFullRows() {
        CHECK.about("promise 4, CHANGE with a row of 12");
        SpecOrder x = new SpecOrder(-1);
        for (int i = 0; i < 11; i++) {
            x.issue(Scene.ADD, 0, 1);
        }
        x.flood(0);
        x.issue(Scene.ADD, 0, 1);
        int ask = x.messages() - 1;
        x.deliver(ask);
        x.deliver(ask + 3);
        Scene.loseAll(x, 0);
        CHECK.due("row of 3", x.replica(3, 1), 12);
        Scene.wantAt(x, 1, 11);
        Scene.wantAt(x, 2, 11);
        int first = x.messages();
        x.patience(1);
        x.patience(2);
        x.deliver(first);
        x.deliver(first + 3);
        x.deliver(first + 1);
        x.deliver(first + 2);
        x.deliver(first + 5);
        for (int i = 6; i < 9; i++) {
            x.deliver(first + i);
        }
        CHECK.due("1 has changes of three, but not yet its own", x.replica(1, 3), 0);
        x.deliver(first + 4);
        CHECK.due("row of 1", x.replica(1, 1), 12);
        CHECK.due("its last", x.replica(1, 21), 11);
        CHECK.dueAll("new", Scene.message(x, first + 9), 7, 1, 0, 1, -1, 12, 0);
        CHECK.dueAll("its last reply", Scene.message(x, first + 23), 2, 1, 4, 1, 11, 12, 0);
        x.flood(0);
        CHECK.dueAll("done", Scene.request(x, 11), 2, 12, 12, 4, 0);
    }

    private static void newToOneBehind() {
        CHECK.about("promise 4, NEW");
        SpecOrder x = Scene.wanting(-1, 1);
        int first = x.messages();
        x.patience(1);
        x.patience(2);
        x.deliver(first + 2);
        x.lose(first + 5);
        x.deliver(first);
        x.deliver(first + 1);
        x.deliver(first + 3);
        x.deliver(first + 4);
        x.deliver(first + 6);
        x.deliver(first + 7);
        CHECK.dueAll("replica 3 knows of one hate", Scene.replica(x, 3), 0, 0, 0, 0, 1, 2, 7);
        CHECK.dueAll("new to it", Scene.message(x, first + 10), 7, 1, 3, 1, -1, 0, 0);
        int toTwo = first + 9;
        x.deliver(first + 10);
        CHECK.dueAll("it turns to a view above its own", Scene.replica(x, 3), 1, 0, 0, 0, 1, 0, 7);
        // replica 2, still changing, moves on to view 2: the new one of view 1 is below its own
        x.patience(3);
        int hate = x.messages() - 1;
        CHECK.dueAll("hate", Scene.message(x, hate), 5, 3, 2, 1, -1, 0, 0);
        x.deliver(hate);
        x.patience(2);
        CHECK.due("view of 2", x.replica(2, 0), 2);
        x.deliver(toTwo);
        CHECK.dueAll("a view below its own means nothing", Scene.replica(x, 2), 2, 0, 0, 1, 1, 0, 7);
    }

    private static void lateReply() {
        CHECK.about("promise 4, REPLY of a lower view");
        SpecOrder x = new SpecOrder(0);
        x.issue(Scene.SET, 0, 1);
        x.issue(Scene.SET, 0, 2);
        Scene.loseAll(x, 0);
        int late = x.messages();
        x.lie(1, 1);
        x.lie(2, 0);
        x.lie(3, 0);
        CHECK.dueAll("reply in view 0", Scene.message(x, late + 1), 2, 2, 4, 0, 0, 1, 0);
        Scene.wantAt(x, 1, 0);
        Scene.wantAt(x, 2, 1);
        Scene.changeView(x, 1, 2);
        CHECK.dueAll("row of 1", Scene.row(x, 1), 0);
        CHECK.due("replies in view 1", x.request(0, 3), 3);
        x.deliver(late + 1);
        CHECK.due("the late one is not kept, so all three are equal", x.retry(0), 2);
        CHECK.due("of view", x.message(x.messages() - 1, 3), 1);
        x.deliver(late);
        CHECK.dueAll("a late one for what is in no row now is kept", Scene.request(x, 1), 1, 0, 0, 1, 0);
        CHECK.due("view", x.view(), 1);
    }

    private static void toAChangingOne() {
        CHECK.about("promise 4, one that is changing");
        SpecOrder x = new SpecOrder(3);
        x.issue(Scene.SET, 0, 1);
        x.flood(0);
        x.issue(Scene.SET, 0, 2);
        x.issue(Scene.SET, 0, 3);
        x.deliver(x.messages() - 2);
        int order = x.messages() - 4;
        CHECK.dueAll("an order", Scene.message(x, order), 1, 0, 1, 0, 1, 2, 0);
        int ask = x.messages();
        x.retry(2);
        x.deliver(ask + 1);
        x.deliver(ask + 2);
        int proof = x.messages();
        CHECK.due("retry", x.retry(0), 2);
        int hate = x.messages();
        x.patience(1);
        x.patience(2);
        x.deliver(hate + 4);
        CHECK.dueAll("replica 1 is changing", Scene.replica(x, 1), 1, 1, 0, 1, 4, 0, 218);
        int messages = x.messages();
        x.deliver(order);
        x.deliver(proof + 1);
        x.retry(1);
        x.deliver(messages + 1);
        CHECK.dueAll("and takes no ORDER, PROOF or ASK", Scene.replica(x, 1), 1, 1, 0, 1, 4, 0, 218);
        CHECK.due("messages", x.messages(), messages + 4);
    }
}
