import java.util.NoSuchElementException;

/** Each promise of the document by itself: ordinary inputs, the edges that it names, and wrong inputs. */
public final class PromiseTest {
    private static final int SET = 0;
    private static final int ADD = 1;
    private static final int READ = 2;
    private static final Class<IllegalArgumentException> ARGUMENT = IllegalArgumentException.class;
    private static final Class<IllegalStateException> STATE = IllegalStateException.class;
    private static final Class<NoSuchElementException> ELEMENT = NoSuchElementException.class;

    private static final Check CHECK = new Check();

    public static void main(String[] args) {
        promise1NewObject();
        promise2Issue();
        promise2Results();
        promise2PrimaryOfTheClientsView();
        promise3Retry();
        promise3UnequalReplies();
        promise4Deliver();
        promise5Flood();
        promise6Lose();
        promise7Patience();
        promise8Lie();
        promise9Echo();
        promise10Replica();
        promise11Messages();
        promise12Message();
        promise13Request();
        promise14View();
        CHECK.end();
    }

    private static int[] replica(SpecOrder x, int replica) {
        int[] facts = new int[7];
        for (int what = 0; what < 7; what++) {
            facts[what] = x.replica(replica, what);
        }
        return facts;
    }

    private static int[] row(SpecOrder x, int replica) {
        int[] row = new int[x.replica(replica, 1)];
        for (int i = 0; i < row.length; i++) {
            row[i] = x.replica(replica, 10 + i);
        }
        return row;
    }

    private static int[] message(SpecOrder x, int message) {
        int[] facts = new int[7];
        for (int what = 0; what < 7; what++) {
            facts[what] = x.message(message, what);
        }
        return facts;
    }

    private static int[] request(SpecOrder x, int request) {
        int[] facts = new int[5];
        for (int what = 0; what < 5; what++) {
            facts[what] = x.request(request, what);
        }
        return facts;
    }

    /** Requests that the primary never got, and that replicas 1, 2 and 3 want: all messages are gone. */
    private static SpecOrder wanting(int faulty, int requests) {
        SpecOrder x = new SpecOrder(faulty);
        for (int i = 0; i < requests; i++) {
            x.issue(SET, 0, 10 + i);
            loseAll(x, 0);
            want(x, i);
        }
        return x;
    }

    /** Replicas 1, 2 and 3 get the client's question, replica 0 hears nothing of it. */
    private static void want(SpecOrder x, int request) {
        int first = x.messages();
        CHECK.due("retry", x.retry(request), 1);
        x.lose(first);
        int asks = x.messages();
        for (int i = 1; i < 4; i++) {
            x.deliver(first + i);
        }
        loseAll(x, asks);
    }

    /** One replica gets the client's question; all that is sent for it or after it is lost. */
    private static void wantAt(SpecOrder x, int replica, int request) {
        int first = x.messages();
        x.retry(request);
        x.deliver(first + replica);
        loseAll(x, first);
    }

    private static void loseAll(SpecOrder x, int from) {
        for (int i = from; i < x.messages(); i++) {
            x.lose(i);
        }
    }

    /** Two replicas lose patience, and all that comes of it is delivered. */
    private static void changeView(SpecOrder x, int one, int other) {
        int first = x.messages();
        CHECK.due("patience " + one, x.patience(one), true);
        CHECK.due("patience " + other, x.patience(other), true);
        x.flood(first);
    }

    private static void promise1NewObject() {
        for (int faulty : new int[] {Integer.MIN_VALUE, -1, 0, 1, 2, 3, 4, Integer.MAX_VALUE}) {
            CHECK.about("promise 1, faulty " + faulty);
            SpecOrder x = new SpecOrder(faulty);
            CHECK.due("messages", x.messages(), 0);
            CHECK.due("view", x.view(), 0);
            CHECK.dueThrow("request", ELEMENT, () -> x.request(0, 0));
            CHECK.dueThrow("retry", ELEMENT, () -> x.retry(0));
            for (int i = 0; i < 4; i++) {
                CHECK.dueAll("replica " + i, replica(x, i), 0, 0, 0, 0, 0, 0, 7);
                CHECK.due("first of the row", x.replica(i, 10), SpecOrder.NONE);
                CHECK.due("number 3", x.replica(i, 33), 0);
            }
            // the faulty one does nothing, so its reply is missing, or all of them if it is the primary
            x.issue(SET, 0, 1);
            x.flood(0);
            boolean one = faulty >= 0 && faulty <= 3;
            CHECK.due("request 0", x.request(0, 0), one ? 1 : 2);
            CHECK.due("replies", x.request(0, 3), faulty == 0 ? 0 : one ? 3 : 4);
            CHECK.due("its row", x.replica(one ? faulty : 3, 1), one ? 0 : 1);
        }
        CHECK.due("NONE", SpecOrder.NONE, -1);
    }

    private static void promise2Issue() {
        CHECK.about("promise 2");
        SpecOrder x = new SpecOrder(-1);
        int[][] wrong = {{-1, 0}, {3, 0}, {0, -1}, {0, 4}, {Integer.MAX_VALUE, 0}, {0, Integer.MIN_VALUE}};
        for (int[] w : wrong) {
            CHECK.dueThrow("issue " + w[0] + " " + w[1], ARGUMENT, () -> x.issue(w[0], w[1], 0));
        }
        CHECK.due("messages after wrong ones", x.messages(), 0);
        for (int i = 0; i < 12; i++) {
            CHECK.due("issue", x.issue(i % 3, i % 4, Integer.MIN_VALUE + i), i);
            CHECK.dueAll("its question", message(x, i), 0, 4, 0, 0, i, 0, 0);
            CHECK.dueAll("request", request(x, i), 1, 0, 0, 0, 0);
        }
        CHECK.dueThrow("the 13th", STATE, () -> x.issue(SET, 0, 0));
        CHECK.dueThrow("the 13th, wrong", ARGUMENT, () -> x.issue(3, 0, 0));
        CHECK.due("messages", x.messages(), 12);
        x.flood(0);
        CHECK.due("a row of 12", x.replica(3, 1), 12);
        CHECK.due("its last", x.replica(3, 21), 11);
        CHECK.due("the last is done", x.request(11, 0), 2);
        CHECK.due("at place", x.request(11, 2), 12);
    }

    private static void promise2Results() {
        CHECK.about("promise 2, results");
        SpecOrder x = new SpecOrder(-1);
        int[][] calls = {{SET, 1, 5, 0}, {ADD, 1, 7, 12}, {READ, 1, 99, 12}, {SET, 1, Integer.MAX_VALUE, 12},
                {ADD, 1, 1, Integer.MIN_VALUE}, {READ, 2, 3, 0}, {ADD, 3, -4, -4}, {SET, 3, 8, -4}, {SET, 0, 2, 0}};
        for (int[] c : calls) {
            x.issue(c[0], c[1], c[2]);
        }
        x.flood(0);
        for (int i = 0; i < calls.length; i++) {
            CHECK.dueAll("request " + i, request(x, i), 2, calls[i][3], i + 1, 4, 0);
        }
        int[] numbers = {x.replica(2, 30), x.replica(2, 31), x.replica(2, 32), x.replica(2, 33)};
        CHECK.dueAll("numbers", numbers, 2, Integer.MIN_VALUE, 0, 8);
    }

    private static void promise2PrimaryOfTheClientsView() {
        CHECK.about("promise 2, in view 1");
        SpecOrder x = wanting(-1, 1);
        changeView(x, 1, 2);
        CHECK.due("view, since no reply came", x.view(), 0);
        x.issue(ADD, 0, 1);
        CHECK.due("asks replica", x.message(x.messages() - 1, 2), 0);
        x.flood(x.messages() - 1);
        CHECK.due("replica 0 asked replica 1, so view", x.view(), 1);
        x.issue(ADD, 0, 1);
        CHECK.dueAll("asks replica 1", message(x, x.messages() - 1), 0, 4, 1, 0, 2, 0, 0);
    }

    private static void promise3Retry() {
        CHECK.about("promise 3");
        SpecOrder x = new SpecOrder(-1);
        CHECK.dueThrow("retry 0", ELEMENT, () -> x.retry(0));
        x.issue(SET, 2, 6);
        CHECK.dueThrow("retry -1", ELEMENT, () -> x.retry(-1));
        CHECK.dueThrow("retry 1", ELEMENT, () -> x.retry(1));
        CHECK.dueThrow("retry MAX", ELEMENT, () -> x.retry(Integer.MAX_VALUE));
        CHECK.due("retry, no reply", x.retry(0), 1);
        for (int i = 0; i < 4; i++) {
            CHECK.dueAll("question " + i, message(x, 1 + i), 0, 4, i, 0, 0, 0, 0);
        }
        loseAll(x, 1);
        x.deliver(0);
        // 5, 6, 7 are the orders, 8 the primary's reply, 9 and 10 those of replicas 1 and 2
        x.deliver(5);
        x.deliver(6);
        x.deliver(8);
        x.deliver(9);
        CHECK.due("retry, two replies", x.retry(0), 1);
        loseAll(x, 11);
        x.deliver(10);
        CHECK.due("retry, three replies", x.retry(0), 2);
        for (int i = 0; i < 4; i++) {
            CHECK.dueAll("proof " + i, message(x, 15 + i), 3, 4, i, 0, -1, 1, 0);
        }
        CHECK.due("a proof alone does not do it", x.request(0, 0), 1);
        x.deliver(15);
        x.deliver(16);
        x.deliver(18);
        CHECK.due("replica 3 has nothing to note, so messages", x.messages(), 21);
        x.deliver(17);
        CHECK.dueAll("an ack", message(x, 21), 4, 2, 4, 0, -1, 1, 0);
        x.deliver(19);
        x.deliver(20);
        CHECK.dueAll("with two acks", request(x, 0), 1, 0, 0, 3, 1);
        CHECK.due("retry, the same proof again", x.retry(0), 2);
        loseAll(x, 22);
        x.deliver(21);
        CHECK.dueAll("with three acks", request(x, 0), 2, 0, 1, 3, 1);
        int messages = x.messages();
        CHECK.due("retry, done", x.retry(0), 0);
        CHECK.due("messages", x.messages(), messages);
    }

    private static void promise3UnequalReplies() {
        CHECK.about("promise 3, unequal replies");
        SpecOrder x = new SpecOrder(0);
        x.issue(SET, 0, 1);
        x.issue(SET, 0, 2);
        x.lie(1, 0);
        x.lie(2, 0);
        x.lie(3, 1);
        x.lie(3, 0);
        x.flood(0);
        CHECK.dueAll("three unequal ones", request(x, 0), 1, 0, 0, 3, 0);
        CHECK.due("retry", x.retry(0), 1);
        loseAll(x, 0);
        CHECK.due("echo", x.echo(2, 0), true);
        CHECK.due("retry with 0, 1 and 2 equal", x.retry(0), 2);
        CHECK.dueAll("their place", message(x, x.messages() - 1), 3, 4, 3, 0, -1, 1, 0);
        // replica 3 has another request at place 1
        x.flood(0);
        CHECK.due("FIXED of replica 2", x.replica(2, 2), 1);
        CHECK.due("FIXED of replica 3", x.replica(3, 2), 0);
        CHECK.due("only two acks", x.request(0, 0), 1);
    }

    private static void promise4Deliver() {
        CHECK.about("promise 4");
        SpecOrder x = new SpecOrder(3);
        x.issue(SET, 0, 1);
        CHECK.due("deliver -1", x.deliver(-1), false);
        CHECK.due("deliver 1", x.deliver(1), false);
        CHECK.due("deliver MAX", x.deliver(Integer.MAX_VALUE), false);
        CHECK.due("deliver MIN", x.deliver(Integer.MIN_VALUE), false);
        CHECK.due("deliver 0", x.deliver(0), true);
        CHECK.due("deliver 0 again", x.deliver(0), false);
        CHECK.due("messages", x.messages(), 5);
        CHECK.due("deliver 3, to the faulty one", x.deliver(3), true);
        CHECK.due("it is delivered", x.message(3, 6), 1);
        CHECK.due("but gone", x.messages(), 5);
        x.lose(2);
        CHECK.due("deliver 2, a lost one", x.deliver(2), false);
        CHECK.due("replica 2 has no row", x.replica(2, 1), 0);
        deliverAsk();
        deliverAskOfThePrimary();
        deliverOrder();
        deliverProof();
        deliverHate();
        deliverChange();
        deliverEarlyChange();
        deliverChangeGreatestFixed();
        deliverChangeSplit();
        deliverChangeInPlaceOfAnother();
        deliverNewToOneBehind();
        deliverLateReply();
        deliverToAChangingOne();
    }

    private static void deliverAsk() {
        CHECK.about("promise 4, ASK");
        SpecOrder x = new SpecOrder(-1);
        x.issue(SET, 0, 1);
        x.retry(0);
        x.deliver(3);
        CHECK.dueAll("replica 2 asks the primary", message(x, 5), 0, 2, 0, 0, 0, 0, 0);
        CHECK.dueAll("and wants it", replica(x, 2), 0, 0, 0, 0, 1, 0, 7);
        x.deliver(0);
        CHECK.dueAll("the primary has it", replica(x, 0), 0, 1, 0, 0, 0, 0, 218);
        for (int i = 1; i < 4; i++) {
            CHECK.dueAll("order", message(x, 5 + i), 1, 0, i, 0, 0, 1, 0);
        }
        CHECK.dueAll("reply", message(x, 9), 2, 0, 4, 0, 0, 1, 0);
        x.deliver(5);
        CHECK.dueAll("asked again, it replies", message(x, 10), 2, 0, 4, 0, 0, 1, 0);
        for (int i = 1; i < 4; i++) {
            CHECK.dueAll("and orders it again", message(x, 10 + i), 1, 0, i, 0, 0, 1, 0);
        }
        x.deliver(12);
        CHECK.dueAll("what is in the row is wanted no more", replica(x, 2), 0, 1, 0, 0, 0, 0, 218);
        CHECK.due("one order and the reply to it, so messages", x.messages(), 15);
        x.deliver(7);
        CHECK.due("the same order again means nothing, so messages", x.messages(), 15);
        x.deliver(1);
        CHECK.due("reply and three orders, so messages", x.messages(), 19);
        SpecOrder y = new SpecOrder(-1);
        y.issue(SET, 0, 1);
        y.deliver(0);
        y.deliver(1);
        y.retry(0);
        y.deliver(7);
        CHECK.dueAll("one that is not the primary replies, no more", message(y, 10), 2, 1, 4, 0, 0, 1, 0);
        CHECK.due("messages", y.messages(), 11);
    }

    private static void deliverAskOfThePrimary() {
        CHECK.about("promise 4, ASK of the primary");
        SpecOrder x = new SpecOrder(-1);
        x.issue(SET, 0, 1);
        x.lose(0);
        x.retry(0);
        x.lose(1);
        x.deliver(2);
        x.deliver(3);
        x.lose(4);
        CHECK.dueAll("replica 1 asks 0", message(x, 5), 0, 1, 0, 0, 0, 0, 0);
        x.lose(6);
        changeView(x, 1, 2);
        CHECK.dueAll("replica 0", replica(x, 0), 1, 0, 0, 0, 0, 0, 7);
        int messages = x.messages();
        x.deliver(5);
        CHECK.dueAll("wants it now", replica(x, 0), 1, 0, 0, 0, 1, 0, 7);
        CHECK.due("and does not ask back, so messages", x.messages(), messages);
    }

    private static void deliverOrder() {
        CHECK.about("promise 4, ORDER");
        SpecOrder x = new SpecOrder(-1);
        x.issue(SET, 0, 1);
        x.issue(SET, 0, 2);
        x.deliver(0);
        x.deliver(1);
        // 2 .. 4 are the orders of request 0, 6 .. 8 those of request 1
        x.deliver(6);
        CHECK.due("place 2 before place 1 means nothing", x.replica(1, 1), 0);
        CHECK.due("so messages", x.messages(), 10);
        x.deliver(2);
        CHECK.dueAll("place 1", row(x, 1), 0);
        CHECK.due("digest", x.replica(1, 6), 218);
        x.retry(1);
        x.deliver(11);
        x.deliver(16);
        CHECK.dueAll("place 2, ordered again", row(x, 1), 0, 1);
        CHECK.due("digest", x.replica(1, 6), 6760);
        SpecOrder y = new SpecOrder(-1);
        y.issue(SET, 0, 1);
        y.issue(SET, 0, 2);
        y.retry(0);
        y.deliver(0);
        CHECK.dueAll("an order of view 0", message(y, 6), 1, 0, 1, 0, 0, 1, 0);
        y.deliver(3);
        y.deliver(4);
        y.deliver(5);
        loseAll(y, 10);
        changeView(y, 1, 2);
        CHECK.due("view of replica 1", y.replica(1, 0), 1);
        int messages = y.messages();
        y.deliver(6);
        y.deliver(7);
        CHECK.dueAll("an order of an older view means nothing", row(y, 2));
        CHECK.due("so messages", y.messages(), messages);
    }

    private static void deliverProof() {
        CHECK.about("promise 4, PROOF");
        SpecOrder x = new SpecOrder(3);
        x.issue(SET, 0, 1);
        x.issue(SET, 0, 2);
        x.flood(0);
        x.retry(1);
        int second = x.messages();
        x.retry(0);
        x.deliver(second - 4);
        CHECK.due("FIXED", x.replica(0, 2), 2);
        x.deliver(second);
        CHECK.due("FIXED does not shrink", x.replica(0, 2), 2);
        CHECK.dueAll("but there is an ack", message(x, x.messages() - 1), 4, 0, 4, 0, -1, 1, 0);
        x.deliver(second + 1);
        CHECK.due("FIXED of replica 1, the first of two", x.replica(1, 2), 1);
        x.deliver(second - 3);
        CHECK.due("FIXED of replica 1", x.replica(1, 2), 2);
        // replicas 0 and 1 have sent an ack for place 1, then or before one for place 2
        x.deliver(second + 2);
        x.deliver(second + 5);
        x.deliver(second + 6);
        x.deliver(second + 8);
        CHECK.dueAll("request 0 by three acks", request(x, 0), 2, 0, 1, 3, 1);
        CHECK.due("request 1 is open", x.request(1, 0), 1);
        x.deliver(second - 2);
        x.deliver(second + 4);
        x.deliver(second + 7);
        x.deliver(second + 9);
        CHECK.dueAll("request 1 by three acks", request(x, 1), 2, 1, 2, 3, 1);
        latestAckAlone();
        proofOfAnotherView();
    }

    private static void latestAckAlone() {
        CHECK.about("promise 4, ACK");
        SpecOrder x = new SpecOrder(3);
        x.issue(SET, 0, 1);
        x.issue(SET, 0, 2);
        x.flood(0);
        int first = x.messages();
        x.retry(0);
        x.retry(1);
        for (int i = 0; i < 8; i++) {
            x.deliver(first + i);
        }
        // the acks: 8, 9, 10 of request 0 and 11, 12, 13 of request 1
        x.deliver(first + 8);
        x.deliver(first + 9);
        x.deliver(first + 11);
        x.deliver(first + 10);
        CHECK.due("the ack of replica 0 gave way to a later one", x.request(0, 0), 1);
        x.deliver(first + 12);
        x.deliver(first + 13);
        CHECK.due("request 1", x.request(1, 0), 2);
        CHECK.due("request 0 is still open", x.request(0, 0), 1);
        CHECK.due("retry", x.retry(0), 2);
        x.flood(0);
        CHECK.due("request 0", x.request(0, 0), 2);
    }

    private static void proofOfAnotherView() {
        CHECK.about("promise 4, PROOF of another view");
        SpecOrder x = new SpecOrder(3);
        x.issue(SET, 0, 1);
        x.issue(SET, 0, 2);
        x.lose(1);
        x.flood(0);
        x.retry(0);
        int proof = x.messages() - 4;
        wantAt(x, 1, 1);
        wantAt(x, 2, 1);
        changeView(x, 1, 2);
        CHECK.dueAll("replica 1", replica(x, 1), 1, 1, 0, 0, 2, 0, 218);
        int messages = x.messages();
        x.deliver(proof + 1);
        CHECK.due("FIXED", x.replica(1, 2), 0);
        CHECK.due("messages", x.messages(), messages);
        CHECK.due("retry", x.retry(0), 2);
        CHECK.dueAll("proof of view 1", message(x, messages), 3, 4, 0, 1, -1, 1, 0);
        x.flood(messages);
        CHECK.dueAll("request 0", request(x, 0), 2, 0, 1, 3, 1);
    }

    private static void deliverHate() {
        CHECK.about("promise 4, HATE");
        SpecOrder x = wanting(-1, 1);
        int first = x.messages();
        x.patience(1);
        x.patience(1);
        x.deliver(first);
        x.deliver(first + 3);
        CHECK.dueAll("the same one twice", replica(x, 0), 0, 0, 0, 0, 0, 2, 7);
        x.patience(2);
        x.deliver(first + 6);
        CHECK.dueAll("two", replica(x, 0), 1, 0, 0, 1, 0, 0, 7);
        CHECK.dueAll("its change", message(x, first + 9), 6, 0, 1, 1, -1, 0, 0);
        x.deliver(first + 7);
        CHECK.dueAll("replica 1 is the new primary and takes its own", replica(x, 1), 1, 0, 0, 1, 1, 0, 7);
        CHECK.due("so messages", x.messages(), first + 10);
        CHECK.dueAll("replica 2 hates itself", replica(x, 2), 0, 0, 0, 0, 1, 4, 7);
        x.patience(0);
        CHECK.dueAll("hate of view 1", message(x, first + 10), 5, 0, 1, 1, -1, 0, 0);
        x.deliver(first + 11);
        CHECK.dueAll("means nothing in view 0", replica(x, 2), 0, 0, 0, 0, 1, 4, 7);
        x.deliver(first + 10);
        CHECK.due("replica 1 hates replica 0 in view 1", x.replica(1, 5), 1);
        x.patience(1);
        CHECK.dueAll("a changing one changes again", replica(x, 1), 2, 0, 0, 1, 1, 0, 7);
        CHECK.dueAll("its change", message(x, x.messages() - 1), 6, 1, 2, 2, -1, 0, 0);
        x.deliver(first + 1);
        CHECK.dueAll("replica 2", replica(x, 2), 1, 0, 0, 1, 1, 0, 7);
    }

    private static void deliverChange() {
        CHECK.about("promise 4, CHANGE");
        SpecOrder x = wanting(-1, 1);
        int first = x.messages();
        x.patience(1);
        x.patience(2);
        for (int i = 0; i < 6; i++) {
            x.deliver(first + i);
        }
        // replicas 2, 0 and 3 send their changes, replica 1 keeps its own
        CHECK.dueAll("of 2", message(x, first + 6), 6, 2, 1, 1, -1, 0, 0);
        CHECK.dueAll("of 0", message(x, first + 7), 6, 0, 1, 1, -1, 0, 0);
        CHECK.dueAll("of 3", message(x, first + 8), 6, 3, 1, 1, -1, 0, 0);
        x.deliver(first + 6);
        CHECK.due("two are too few", x.messages(), first + 9);
        CHECK.due("changing", x.replica(1, 3), 1);
        x.deliver(first + 8);
        CHECK.dueAll("three are enough", replica(x, 1), 1, 0, 0, 0, 1, 0, 7);
        CHECK.dueAll("new to 0", message(x, first + 9), 7, 1, 0, 1, -1, 0, 0);
        CHECK.dueAll("new to 2", message(x, first + 10), 7, 1, 2, 1, -1, 0, 0);
        CHECK.dueAll("new to 3", message(x, first + 11), 7, 1, 3, 1, -1, 0, 0);
        CHECK.due("messages", x.messages(), first + 12);
        x.deliver(first + 7);
        CHECK.due("the fourth means nothing", x.messages(), first + 12);
        x.deliver(first + 10);
        CHECK.dueAll("replica 2 has turned", replica(x, 2), 1, 0, 0, 0, 1, 0, 7);
        CHECK.due("replica 3 has not", x.replica(3, 3), 1);
    }

    private static void deliverEarlyChange() {
        CHECK.about("promise 4, CHANGE before the new primary changes");
        SpecOrder x = wanting(-1, 1);
        int first = x.messages();
        x.patience(2);
        x.patience(3);
        x.deliver(first);
        x.deliver(first + 2);
        x.deliver(first + 3);
        // 0 and 3 have changed, and 2 does now; replica 1 has heard of no hate
        x.deliver(first + 5);
        for (int i = 6; i < 9; i++) {
            CHECK.due("change " + i, x.message(first + i, 0), 6);
            x.deliver(first + i);
        }
        CHECK.dueAll("replica 1", replica(x, 1), 0, 0, 0, 0, 1, 0, 7);
        CHECK.due("messages", x.messages(), first + 9);
        x.deliver(first + 1);
        x.deliver(first + 4);
        CHECK.dueAll("replica 1, with all four at once", replica(x, 1), 1, 0, 0, 0, 1, 0, 7);
        CHECK.due("messages", x.messages(), first + 12);
    }

    private static void deliverChangeGreatestFixed() {
        CHECK.about("promise 4, CHANGE with FIXED");
        SpecOrder x = new SpecOrder(-1);
        x.issue(SET, 0, 5);
        x.issue(ADD, 0, 1);
        x.issue(ADD, 0, 2);
        x.lose(2);
        x.deliver(0);
        x.deliver(1);
        // orders of 0: 3, 4, 5; of 1: 7, 8, 9. Replica 3 gets none, replica 2 only the first
        x.deliver(3);
        x.deliver(7);
        x.deliver(4);
        CHECK.dueAll("row of 1", row(x, 1), 0, 1);
        CHECK.dueAll("row of 2", row(x, 2), 0);
        for (int i = 10; i < x.messages(); i++) {
            x.deliver(i);
        }
        x.deliver(6);
        int proof = x.messages();
        CHECK.due("three have replied for 0", x.retry(0), 2);
        x.deliver(proof + 2);
        CHECK.due("FIXED of 2", x.replica(2, 2), 1);
        loseAll(x, 0);
        wantAt(x, 2, 2);
        wantAt(x, 3, 2);
        int first = x.messages();
        x.patience(2);
        x.patience(3);
        // replicas 1, 2, 3 change, not replica 0
        x.deliver(first + 1);
        x.deliver(first + 4);
        x.deliver(first + 2);
        x.deliver(first + 5);
        loseAll(x, 0);
        CHECK.due("1 is changing", x.replica(1, 3), 1);
        // their changes were lost: one more round brings them to view 2
        first = x.messages();
        x.patience(1);
        x.patience(3);
        x.deliver(first + 1);
        x.deliver(first + 4);
        x.deliver(first + 5);
        x.deliver(first + 2);
        CHECK.due("2 is in view", x.replica(2, 0), 2);
        x.flood(first + 6);
        CHECK.dueAll("2 has made the row of its FIXED", replica(x, 2), 2, 1, 1, 0, 4, 0, 218);
        CHECK.dueAll("1 gave up what no one else had", replica(x, 1), 2, 1, 1, 0, 0, 0, 218);
        CHECK.due("and its number", x.replica(1, 30), 5);
        CHECK.dueAll("3 has it, too", replica(x, 3), 2, 1, 1, 0, 4, 0, 218);
        CHECK.due("client's view", x.view(), 2);
    }

    private static void deliverChangeSplit() {
        CHECK.about("promise 4, CHANGE two against two");
        SpecOrder x = new SpecOrder(-1);
        x.issue(SET, 0, 1);
        x.issue(SET, 1, 2);
        x.deliver(0);
        x.deliver(4);
        loseAll(x, 0);
        CHECK.dueAll("row of 3, as of 0", row(x, 3), 0);
        for (int i = 1; i < 4; i++) {
            wantAt(x, i, 1);
        }
        int first = x.messages();
        x.patience(2);
        x.patience(3);
        for (int i = 0; i < 6; i++) {
            x.deliver(first + i);
        }
        // the changes are those of 3, 0 and 2, in this order; that of 0 is lost
        CHECK.dueAll("change of 0", message(x, first + 7), 6, 0, 1, 1, -1, 1, 0);
        x.lose(first + 7);
        x.deliver(first + 6);
        x.deliver(first + 8);
        CHECK.dueAll("only 3 has it, so row of 1", row(x, 1));
        int fresh = x.messages() - 3;
        x.deliver(fresh + 1);
        loseAll(x, 0);
        int ask = x.messages();
        x.retry(1);
        x.deliver(ask + 1);
        CHECK.dueAll("order to 2", message(x, ask + 5), 1, 1, 2, 1, 1, 1, 0);
        x.deliver(ask + 5);
        loseAll(x, 0);
        CHECK.dueAll("row of 2, as of 1", row(x, 2), 1);
        // 0 and 3 are still changing in view 1, with row 0; all but 2 go on, then 2 itself
        first = x.messages();
        x.patience(0);
        x.patience(3);
        x.deliver(first);
        x.deliver(first + 3);
        x.deliver(first + 2);
        x.deliver(first + 4);
        for (int i = 6; i < 9; i++) {
            CHECK.due("change to 2", x.message(first + i, 0), 6);
            x.deliver(first + i);
        }
        x.deliver(first + 1);
        CHECK.dueAll("2 is not yet changing", replica(x, 2), 1, 1, 0, 0, 0, 1, 219);
        x.deliver(first + 5);
        CHECK.dueAll("of 0 1 1 0 that of the lowest comes, row of 2", row(x, 2), 0);
        CHECK.dueAll("state of 2", replica(x, 2), 2, 1, 0, 0, 0, 0, 218);
        splitRows();
    }

    private static void deliverChangeInPlaceOfAnother() {
        CHECK.about("promise 4, CHANGE in place of another");
        SpecOrder x = wanting(-1, 1);
        // replicas 2 and 3 go from view to view; 1 hears of their changes, but of no hate
        for (int view = 0; view < 5; view++) {
            int first = x.messages();
            x.patience(2);
            x.patience(3);
            x.deliver(first + 2);
            x.deliver(first + 5);
            CHECK.due("view of 2", x.replica(2, 0), view + 1);
            if (view == 0) {
                CHECK.dueAll("change of 3", message(x, first + 6), 6, 3, 1, 1, -1, 0, 0);
                x.deliver(first + 6);
                x.deliver(first + 7);
            }
        }
        int last = x.messages() - 1;
        CHECK.dueAll("change of 2", message(x, last), 6, 2, 1, 5, -1, 0, 0);
        x.deliver(last);
        int first = x.messages();
        x.patience(1);
        // a hate of view 0 by 2, that is still under way
        for (int i = 0; i < last && x.replica(1, 0) == 0; i++) {
            if (x.message(i, 0) == 5 && x.message(i, 2) == 1 && x.message(i, 3) == 0) {
                x.deliver(i);
            }
        }
        CHECK.dueAll("1 has only that of 3 and its own for view 1", replica(x, 1), 1, 0, 0, 1, 1, 0, 7);
        CHECK.due("so there is no new one", x.messages(), first + 3);
    }

    private static void splitRows() {
        SpecOrder x = new SpecOrder(0);
        x.issue(SET, 0, 1);
        x.issue(SET, 1, 2);
        x.issue(SET, 2, 3);
        loseAll(x, 0);
        int[][] lies = {{1, 0}, {1, 1}, {2, 1}, {3, 0}, {3, 2}};
        for (int[] lie : lies) {
            CHECK.due("lie", x.lie(lie[0], lie[1]), true);
        }
        loseAll(x, 0);
        wantAt(x, 1, 2);
        wantAt(x, 2, 2);
        changeView(x, 1, 2);
        for (int i = 1; i < 4; i++) {
            CHECK.dueAll("what 1 and 3 begin with, and no more, row of " + i, row(x, i), 0);
        }
        CHECK.due("2 has its number no more", x.replica(2, 31), 0);
        CHECK.due("2 does not want what it gave up", x.replica(2, 4), 4);
    }

    private static void deliverNewToOneBehind() {
        CHECK.about("promise 4, NEW");
        SpecOrder x = wanting(-1, 1);
        int first = x.messages();
        x.patience(1);
        x.patience(2);
        x.lose(first + 2);
        x.lose(first + 5);
        x.deliver(first);
        x.deliver(first + 1);
        x.deliver(first + 3);
        x.deliver(first + 4);
        x.deliver(first + 6);
        x.deliver(first + 7);
        CHECK.dueAll("replica 3 knows nothing", replica(x, 3), 0, 0, 0, 0, 1, 0, 7);
        CHECK.dueAll("new to it", message(x, first + 10), 7, 1, 3, 1, -1, 0, 0);
        int toTwo = first + 9;
        x.deliver(first + 10);
        CHECK.dueAll("it turns to a view above its own", replica(x, 3), 1, 0, 0, 0, 1, 0, 7);
        // replica 2, still changing, moves on to view 2: the new one of view 1 is below its own
        x.patience(3);
        int hate = x.messages() - 1;
        CHECK.dueAll("hate", message(x, hate), 5, 3, 2, 1, -1, 0, 0);
        x.deliver(hate);
        x.patience(2);
        CHECK.due("view of 2", x.replica(2, 0), 2);
        x.deliver(toTwo);
        CHECK.dueAll("a view below its own means nothing", replica(x, 2), 2, 0, 0, 1, 1, 0, 7);
    }

    private static void deliverLateReply() {
        CHECK.about("promise 4, REPLY of a lower view");
        SpecOrder x = new SpecOrder(0);
        x.issue(SET, 0, 1);
        x.issue(SET, 0, 2);
        loseAll(x, 0);
        int late = x.messages();
        x.lie(1, 1);
        x.lie(2, 0);
        x.lie(3, 0);
        CHECK.dueAll("reply in view 0", message(x, late + 1), 2, 2, 4, 0, 0, 1, 0);
        wantAt(x, 1, 0);
        wantAt(x, 2, 1);
        changeView(x, 1, 2);
        CHECK.dueAll("row of 1", row(x, 1), 0);
        CHECK.due("replies in view 1", x.request(0, 3), 3);
        x.deliver(late + 1);
        CHECK.due("the late one is not kept, so all three are equal", x.retry(0), 2);
        CHECK.due("of view", x.message(x.messages() - 1, 3), 1);
        x.deliver(late);
        CHECK.dueAll("a late one for what is in no row now is kept", request(x, 1), 1, 0, 0, 1, 0);
        CHECK.due("view", x.view(), 1);
    }

    private static void deliverToAChangingOne() {
        CHECK.about("promise 4, one that is changing");
        SpecOrder x = new SpecOrder(3);
        x.issue(SET, 0, 1);
        x.flood(0);
        x.issue(SET, 0, 2);
        x.issue(SET, 0, 3);
        x.deliver(x.messages() - 2);
        int order = x.messages() - 4;
        CHECK.dueAll("an order", message(x, order), 1, 0, 1, 0, 1, 2, 0);
        int ask = x.messages();
        x.retry(2);
        x.deliver(ask + 1);
        x.deliver(ask + 2);
        int proof = x.messages();
        CHECK.due("retry", x.retry(0), 2);
        int hate = x.messages();
        x.patience(1);
        x.patience(2);
        x.deliver(hate + 4);
        CHECK.dueAll("replica 1 is changing", replica(x, 1), 1, 1, 0, 1, 4, 0, 218);
        int messages = x.messages();
        x.deliver(order);
        x.deliver(proof + 1);
        x.retry(1);
        x.deliver(messages + 1);
        CHECK.dueAll("and takes no ORDER, PROOF or ASK", replica(x, 1), 1, 1, 0, 1, 4, 0, 218);
        CHECK.due("messages", x.messages(), messages + 4);
    }

    private static void promise5Flood() {
        CHECK.about("promise 5");
        SpecOrder x = new SpecOrder(-1);
        CHECK.due("nothing to flood", x.flood(0), 0);
        CHECK.dueThrow("flood -1", ARGUMENT, () -> x.flood(-1));
        CHECK.dueThrow("flood MIN", ARGUMENT, () -> x.flood(Integer.MIN_VALUE));
        x.issue(SET, 0, 1);
        x.issue(SET, 0, 2);
        CHECK.due("from past the end", x.flood(2), 0);
        CHECK.due("from MAX", x.flood(Integer.MAX_VALUE), 0);
        // request 1 alone: its question, three orders and four replies
        CHECK.due("from 1", x.flood(1), 8);
        CHECK.due("the one before is under way", x.message(0, 6), 0);
        CHECK.dueAll("row", row(x, 2), 1);
        x.deliver(0);
        x.lose(10);
        CHECK.due("three of four are left, and bring two replies", x.flood(0), 5);
        CHECK.dueAll("row of 1", row(x, 1), 1, 0);
        CHECK.dueAll("row of 2, whose order was lost", row(x, 2), 1);
        CHECK.due("nothing is left", x.flood(0), 0);
    }

    private static void promise6Lose() {
        CHECK.about("promise 6");
        SpecOrder x = new SpecOrder(1);
        CHECK.due("lose 0, none there", x.lose(0), false);
        x.issue(SET, 0, 1);
        CHECK.due("lose -1", x.lose(-1), false);
        CHECK.due("lose 1", x.lose(1), false);
        CHECK.due("lose MAX", x.lose(Integer.MAX_VALUE), false);
        CHECK.due("lose 0", x.lose(0), true);
        CHECK.due("it is lost", x.message(0, 6), 2);
        CHECK.due("lose 0 again", x.lose(0), false);
        CHECK.due("deliver it", x.deliver(0), false);
        CHECK.due("flood", x.flood(0), 0);
        CHECK.due("row of 0", x.replica(0, 1), 0);
        x.retry(0);
        x.deliver(1);
        CHECK.due("lose a delivered one", x.lose(1), false);
        CHECK.due("it stays delivered", x.message(1, 6), 1);
        CHECK.due("lose one to the faulty replica", x.lose(2), true);
    }

    private static void promise7Patience() {
        CHECK.about("promise 7");
        SpecOrder x = wanting(3, 1);
        for (int wrong : new int[] {-1, 4, 5, Integer.MAX_VALUE, Integer.MIN_VALUE}) {
            CHECK.dueThrow("patience " + wrong, ARGUMENT, () -> x.patience(wrong));
        }
        int first = x.messages();
        CHECK.due("nothing is wanted by 0", x.patience(0), false);
        CHECK.due("the faulty one", x.patience(3), false);
        CHECK.due("messages", x.messages(), first);
        CHECK.due("patience 2", x.patience(2), true);
        CHECK.dueAll("hate to 0", message(x, first), 5, 2, 0, 0, -1, 0, 0);
        CHECK.dueAll("hate to 1", message(x, first + 1), 5, 2, 1, 0, -1, 0, 0);
        CHECK.dueAll("hate to 3", message(x, first + 2), 5, 2, 3, 0, -1, 0, 0);
        CHECK.due("it hates itself", x.replica(2, 5), 4);
        CHECK.due("once more", x.patience(2), true);
        CHECK.due("still alone", x.replica(2, 0), 0);
        CHECK.due("but sent again", x.messages(), first + 6);
        x.deliver(first + 1);
        CHECK.due("patience 1", x.patience(1), true);
        CHECK.dueAll("two: itself changes, and is the new primary", replica(x, 1), 1, 0, 0, 1, 1, 0, 7);
        CHECK.due("three hates and no change", x.messages(), first + 9);
        x.deliver(first + 7);
        CHECK.due("the hate that 1 sent is of view 0, so 2 changes", x.replica(2, 0), 1);
        CHECK.due("patience of a changing one", x.patience(2), true);
        CHECK.dueAll("of view 1", message(x, x.messages() - 1), 5, 2, 3, 1, -1, 0, 0);
    }

    private static void promise8Lie() {
        CHECK.about("promise 8");
        SpecOrder honest = new SpecOrder(-1);
        honest.issue(SET, 0, 1);
        CHECK.due("none is faulty", honest.lie(1, 0), false);
        CHECK.dueThrow("none is faulty, lie 4", ARGUMENT, () -> honest.lie(4, 0));
        CHECK.dueThrow("none is faulty, lie -1", ARGUMENT, () -> honest.lie(-1, 0));
        CHECK.dueThrow("none is faulty, request 1", ARGUMENT, () -> honest.lie(0, 1));
        SpecOrder x = new SpecOrder(0);
        CHECK.dueThrow("no request", ARGUMENT, () -> x.lie(1, 0));
        x.issue(SET, 0, 7);
        x.issue(ADD, 0, 2);
        loseAll(x, 0);
        CHECK.dueThrow("request -1", ARGUMENT, () -> x.lie(1, -1));
        CHECK.dueThrow("request 2", ARGUMENT, () -> x.lie(1, 2));
        CHECK.dueThrow("to itself", ARGUMENT, () -> x.lie(0, 0));
        CHECK.dueThrow("to 4", ARGUMENT, () -> x.lie(4, 0));
        CHECK.due("to 2", x.lie(2, 1), true);
        CHECK.dueAll("no order was sent, only the reply", message(x, 2), 2, 2, 4, 0, 1, 1, 0);
        CHECK.due("messages", x.messages(), 3);
        CHECK.due("to 2 again", x.lie(2, 1), false);
        CHECK.due("to 2, the next place", x.lie(2, 0), true);
        CHECK.dueAll("row", row(x, 2), 1, 0);
        CHECK.due("number", x.replica(2, 30), 7);
        CHECK.due("messages", x.messages(), 4);
        wantAt(x, 1, 0);
        wantAt(x, 3, 0);
        int first = x.messages();
        x.patience(1);
        x.patience(3);
        x.deliver(first + 2);
        CHECK.due("3 is in view", x.replica(3, 0), 1);
        CHECK.due("0 is not its primary", x.lie(3, 0), false);
        CHECK.due("1 is in view 0", x.lie(1, 0), true);
        CHECK.due("and wants nothing now", x.replica(1, 4), 0);
        lieToAChangingOne();
    }

    private static void lieToAChangingOne() {
        SpecOrder x = wanting(1, 1);
        CHECK.due("1 is not the primary of view 0", x.lie(2, 0), false);
        int first = x.messages();
        x.patience(2);
        x.patience(3);
        x.deliver(first + 2);
        CHECK.dueAll("3 is changing in view 1", replica(x, 3), 1, 0, 0, 1, 1, 0, 7);
        CHECK.due("so it does not do it", x.lie(3, 0), false);
        CHECK.due("row of 3", x.replica(3, 1), 0);
    }

    private static void promise9Echo() {
        CHECK.about("promise 9");
        SpecOrder honest = new SpecOrder(7);
        honest.issue(SET, 0, 1);
        honest.flood(0);
        CHECK.due("none is faulty", honest.echo(1, 0), false);
        CHECK.dueThrow("none is faulty, replica 4", ARGUMENT, () -> honest.echo(4, 0));
        CHECK.dueThrow("none is faulty, request 1", ARGUMENT, () -> honest.echo(1, 1));
        SpecOrder x = new SpecOrder(2);
        CHECK.dueThrow("no request", ARGUMENT, () -> x.echo(1, 0));
        x.issue(ADD, 3, 4);
        CHECK.dueThrow("request -1", ARGUMENT, () -> x.echo(1, -1));
        CHECK.dueThrow("the faulty one", ARGUMENT, () -> x.echo(2, 0));
        CHECK.dueThrow("replica -1", ARGUMENT, () -> x.echo(-1, 0));
        CHECK.dueThrow("replica 4", ARGUMENT, () -> x.echo(4, 0));
        CHECK.due("no reply yet", x.echo(0, 0), false);
        x.flood(0);
        CHECK.dueAll("open", request(x, 0), 1, 0, 0, 3, 0);
        int messages = x.messages();
        CHECK.due("echo", x.echo(3, 0), true);
        CHECK.dueAll("done by four", request(x, 0), 2, 4, 1, 4, 0);
        CHECK.due("messages", x.messages(), messages);
        CHECK.due("echo of what is done", x.echo(3, 0), true);
        echoOfALowerView();
    }

    private static void echoOfALowerView() {
        CHECK.about("promise 9, a lower view");
        SpecOrder x = new SpecOrder(0);
        x.issue(SET, 0, 1);
        x.issue(SET, 0, 2);
        loseAll(x, 0);
        x.lie(1, 0);
        x.lie(2, 0);
        x.lie(3, 0);
        x.flood(0);
        wantAt(x, 1, 1);
        wantAt(x, 2, 1);
        int first = x.messages();
        x.patience(1);
        x.patience(2);
        // replica 3 hears nothing of view 1 but sends its change
        x.deliver(first + 2);
        x.deliver(first + 5);
        x.deliver(first + 1);
        x.deliver(first + 4);
        int change = first + 6;
        x.deliver(change);
        x.deliver(change + 1);
        // 1 has replied in view 1, the replies of 2 and 3 are still those of view 0
        CHECK.dueAll("reply of 1", message(x, x.messages() - 1), 2, 1, 4, 1, 0, 1, 0);
        x.deliver(x.messages() - 1);
        CHECK.due("client's view", x.view(), 1);
        CHECK.due("echo of view 1", x.echo(1, 0), true);
        CHECK.due("two against two", x.retry(0), 1);
        CHECK.due("echo of view 0", x.echo(2, 0), true);
        CHECK.due("it is not kept", x.retry(0), 1);
        CHECK.due("view", x.view(), 1);
    }

    private static void promise10Replica() {
        CHECK.about("promise 10");
        SpecOrder x = new SpecOrder(-1);
        for (int what : new int[] {Integer.MIN_VALUE, -1, 7, 8, 9, 22, 29, 34, Integer.MAX_VALUE}) {
            CHECK.dueThrow("what " + what, ARGUMENT, () -> x.replica(0, what));
        }
        for (int replica : new int[] {Integer.MIN_VALUE, -1, 4, 5, Integer.MAX_VALUE}) {
            CHECK.dueThrow("replica " + replica, ARGUMENT, () -> x.replica(replica, 0));
        }
        for (int i = 0; i < 7; i++) {
            x.issue(ADD, i % 4, 1 + i);
        }
        x.flood(0);
        CHECK.dueAll("row", row(x, 3), 0, 1, 2, 3, 4, 5, 6);
        CHECK.due("place 8", x.replica(3, 17), SpecOrder.NONE);
        CHECK.due("place 12", x.replica(3, 21), SpecOrder.NONE);
        int digest = 7;
        for (int i = 0; i < 7; i++) {
            digest = 31 * digest + i + 1;
        }
        CHECK.dueAll("state, the digest wraps", replica(x, 3), 0, 7, 0, 0, 0, 0, digest);
        int[] numbers = {x.replica(1, 30), x.replica(1, 31), x.replica(1, 32), x.replica(1, 33)};
        CHECK.dueAll("numbers", numbers, 6, 8, 10, 4);
        SpecOrder y = wanting(-1, 3);
        CHECK.due("wanted as bits", y.replica(2, 4), 7);
        y.patience(3);
        CHECK.due("hated as bits", y.replica(3, 5), 8);
    }

    private static void promise11Messages() {
        CHECK.about("promise 11");
        SpecOrder x = new SpecOrder(-1);
        x.issue(SET, 0, 1);
        CHECK.due("messages", x.messages(), 1);
        x.lose(0);
        CHECK.due("a lost one counts", x.messages(), 1);
        for (int i = 0; i < 149; i++) {
            x.retry(0);
        }
        CHECK.due("messages", x.messages(), 597);
        CHECK.due("the last three that can be sent", x.retry(0), 1);
        CHECK.due("messages", x.messages(), 600);
        CHECK.due("receiver of the last", x.message(599, 2), 2);
        CHECK.dueThrow("no message 600", ELEMENT, () -> x.message(600, 0));
        CHECK.due("retry is as ever", x.retry(0), 1);
        CHECK.due("issue is as ever", x.issue(SET, 0, 2), 1);
        CHECK.due("messages", x.messages(), 600);
        CHECK.due("deliver 600", x.deliver(600), false);
        // the primary and the others do all that they do, but no one hears of it
        CHECK.due("deliver the last", x.deliver(599), true);
        CHECK.due("2 wants it", x.replica(2, 4), 1);
        CHECK.due("patience", x.patience(2), true);
        CHECK.due("flood", x.flood(0), 598);
        CHECK.due("row of 0", x.replica(0, 1), 1);
        CHECK.due("row of 1", x.replica(1, 1), 0);
        CHECK.due("replies", x.request(0, 3), 0);
        CHECK.due("messages", x.messages(), 600);
    }

    private static void promise12Message() {
        CHECK.about("promise 12");
        SpecOrder x = new SpecOrder(3);
        CHECK.dueThrow("none there", ELEMENT, () -> x.message(0, 0));
        x.issue(SET, 0, 1);
        for (int what : new int[] {Integer.MIN_VALUE, -1, 7, Integer.MAX_VALUE}) {
            CHECK.dueThrow("what " + what, ELEMENT, () -> x.message(0, what));
        }
        for (int message : new int[] {Integer.MIN_VALUE, -1, 1, 600, Integer.MAX_VALUE}) {
            CHECK.dueThrow("message " + message, ELEMENT, () -> x.message(message, 0));
        }
        x.flood(0);
        x.retry(0);
        x.flood(0);
        CHECK.dueAll("ASK", message(x, 0), 0, 4, 0, 0, 0, 0, 1);
        CHECK.dueAll("ORDER", message(x, 2), 1, 0, 2, 0, 0, 1, 1);
        CHECK.dueAll("REPLY", message(x, 5), 2, 1, 4, 0, 0, 1, 1);
        CHECK.dueAll("PROOF", message(x, 7), 3, 4, 0, 0, -1, 1, 1);
        CHECK.dueAll("ACK", message(x, 12), 4, 1, 4, 0, -1, 1, 1);
        x.issue(SET, 0, 2);
        loseAll(x, 0);
        wantAt(x, 1, 1);
        wantAt(x, 2, 1);
        int first = x.messages();
        changeView(x, 1, 2);
        CHECK.dueAll("HATE", message(x, first), 5, 1, 0, 0, -1, 0, 1);
        CHECK.dueAll("CHANGE", message(x, first + 6), 6, 2, 1, 1, -1, 1, 1);
        CHECK.dueAll("NEW", message(x, first + 8), 7, 1, 0, 1, -1, 1, 1);
        CHECK.dueAll("REPLY of the new primary", message(x, first + 11), 2, 1, 4, 1, 0, 1, 1);
        CHECK.dueAll("FIXED goes with it", replica(x, 2), 1, 1, 1, 0, 2, 0, 218);
    }

    private static void promise13Request() {
        CHECK.about("promise 13");
        SpecOrder x = new SpecOrder(-1);
        CHECK.dueThrow("none there", ELEMENT, () -> x.request(0, 0));
        x.issue(ADD, 0, 3);
        for (int what : new int[] {Integer.MIN_VALUE, -1, 5, Integer.MAX_VALUE}) {
            CHECK.dueThrow("what " + what, ELEMENT, () -> x.request(0, what));
        }
        for (int request : new int[] {Integer.MIN_VALUE, -1, 1, 12, Integer.MAX_VALUE}) {
            CHECK.dueThrow("request " + request, ELEMENT, () -> x.request(request, 0));
        }
        x.deliver(0);
        x.deliver(1);
        x.deliver(2);
        x.deliver(3);
        for (int i = 0; i < 3; i++) {
            CHECK.dueAll("open", request(x, 0), 1, 0, 0, i, 0);
            x.deliver(4 + i);
        }
        CHECK.dueAll("three replies", request(x, 0), 1, 0, 0, 3, 0);
        x.retry(0);
        CHECK.dueAll("a proof was sent", request(x, 0), 1, 0, 0, 3, 1);
        x.deliver(7);
        CHECK.dueAll("done", request(x, 0), 2, 3, 1, 4, 1);
        x.flood(0);
        CHECK.dueAll("still done", request(x, 0), 2, 3, 1, 4, 1);
    }

    private static void promise14View() {
        CHECK.about("promise 14");
        SpecOrder x = new SpecOrder(-1);
        x.issue(SET, 0, 1);
        x.flood(0);
        x.issue(SET, 0, 2);
        loseAll(x, 0);
        want(x, 1);
        changeView(x, 1, 2);
        CHECK.due("view", x.view(), 1);
        changeView(x, 2, 3);
        CHECK.due("view", x.view(), 2);
        changeView(x, 1, 3);
        changeView(x, 1, 2);
        CHECK.due("view", x.view(), 4);
        x.retry(1);
        x.flood(0);
        CHECK.dueAll("the primary of view 4 is 0", row(x, 3), 0, 1);
        CHECK.due("done", x.request(1, 0), 2);
        x.issue(READ, 0, 0);
        CHECK.due("asks", x.message(x.messages() - 1, 2), 0);
    }
}
