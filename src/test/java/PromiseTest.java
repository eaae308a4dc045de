import java.util.NoSuchElementException;

/** Each promise of the document by itself: ordinary inputs, the edges that it names, and wrong inputs. */
public final class PromiseTest {
    private static final Class<IllegalArgumentException> ARGUMENT = IllegalArgumentException.class;
    private static final Class<IllegalStateException> STATE = IllegalStateException.class;
    private static final Class<NoSuchElementException> ELEMENT = NoSuchElementException.class;

    private static final Check CHECK = new Check();

    public static void main(String[] args) {
        promise1NewObject();
        promise2Issue();
        promise2Results();
        promise2PrimaryOfTheClientsView();
        promise3Retry();
        promise3UnequalReplies();
        promise4Deliver();
        promise5Flood();
        promise6Lose();
        promise7Patience();
        patienceOfTheNewPrimary();
        promise8Lie();
        promise9Echo();
        promise10Replica();
        promise11Messages();
        promise12Message();
        promise13Request();
        promise14View();
        CHECK.end();
    }

    private static void promise1NewObject() {
        for (int faulty : new int[] {Integer.MIN_VALUE, -1, 0, 1, 2, 3, 4, Integer.MAX_VALUE}) {
            CHECK.about("promise 1, faulty " + faulty);
            SpecOrder x = new SpecOrder(faulty);
            CHECK.due("messages", x.messages(), 0);
            CHECK.due("view", x.view(), 0);
            CHECK.dueThrow("request", ELEMENT, () -> x.request(0, 0));
            CHECK.dueThrow("retry", ELEMENT, () -> x.retry(0));
            for (int i = 0; i < 4; i++) {
                CHECK.dueAll("replica " + i, Scene.replica(x, i), 0, 0, 0, 0, 0, 0, 7);
                CHECK.due("first of the row", x.replica(i, 10), SpecOrder.NONE);
                CHECK.due("number 3", x.replica(i, 33), 0);
            }
            // the faulty one does nothing, so its reply is missing, or all of them if it is the primary
            x.issue(Scene.SET, 0, 1);
            x.flood(0);
            boolean one = faulty >= 0 && faulty <= 3;
            CHECK.due("request 0", x.request(0, 0), one ? 1 : 2);
            CHECK.due("replies", x.request(0, 3), faulty == 0 ? 0 : one ? 3 : 4);
            CHECK.due("its row", x.replica(one ? faulty : 3, 1), one ? 0 : 1);
        }
        CHECK.due("NONE", SpecOrder.NONE, -1);
    }

    private static void promise2Issue() {
        CHECK.about("promise 2");
        SpecOrder x = new SpecOrder(-1);
        int[][] wrong = {{-1, 0}, {3, 0}, {0, -1}, {0, 4}, {Integer.MAX_VALUE, 0}, {0, Integer.MIN_VALUE}};
        for (int[] w : wrong) {
            CHECK.dueThrow("issue " + w[0] + " " + w[1], ARGUMENT, () -> x.issue(w[0], w[1], 0));
        }
        CHECK.due("messages after wrong ones", x.messages(), 0);
        for (int i = 0; i < 12; i++) {
            CHECK.due("issue", x.issue(i % 3, i % 4, Integer.MIN_VALUE + i), i);
            CHECK.dueAll("its question", Scene.message(x, i), 0, 4, 0, 0, i, 0, 0);
            CHECK.dueAll("request", Scene.request(x, i), 1, 0, 0, 0, 0);
        }
        CHECK.dueThrow("the 13th", STATE, () -> x.issue(Scene.SET, 0, 0));
        CHECK.dueThrow("the 13th, wrong", ARGUMENT, () -> x.issue(3, 0, 0));
        CHECK.due("messages", x.messages(), 12);
        x.flood(0);
        CHECK.due("a row of 12", x.replica(3, 1), 12);
        CHECK.due("its last", x.replica(3, 21), 11);
        CHECK.due("the last is done", x.request(11, 0), 2);
        CHECK.due("at place", x.request(11, 2), 12);
    }

    private static void promise2Results() {
        CHECK.about("promise 2, results");
        SpecOrder x = new SpecOrder(-1);
        int[][] calls = {{Scene.SET, 1, 5, 0}, {Scene.ADD, 1, 7, 12}, {Scene.READ, 1, 99, 12}, {Scene.SET, 1, Integer.MAX_VALUE, 12},
                {Scene.ADD, 1, 1, Integer.MIN_VALUE}, {Scene.READ, 2, 3, 0}, {Scene.ADD, 3, -4, -4}, {Scene.SET, 3, 8, -4}, {Scene.SET, 0, 2, 0}};
        for (int[] c : calls) {
            x.issue(c[0], c[1], c[2]);
        }
        x.flood(0);
        for (int i = 0; i < calls.length; i++) {
            CHECK.dueAll("request " + i, Scene.request(x, i), 2, calls[i][3], i + 1, 4, 0);
        }
        int[] numbers = {x.replica(2, 30), x.replica(2, 31), x.replica(2, 32), x.replica(2, 33)};
        CHECK.dueAll("numbers", numbers, 2, Integer.MIN_VALUE, 0, 8);
    }

    private static void promise2PrimaryOfTheClientsView() {
        CHECK.about("promise 2, in view 1");
        SpecOrder x = Scene.wanting(-1, 1);
        Scene.changeView(x, 1, 2);
        CHECK.due("view, since no reply came", x.view(), 0);
        x.issue(Scene.ADD, 0, 1);
        CHECK.due("asks replica", x.message(x.messages() - 1, 2), 0);
        x.flood(x.messages() - 1);
        CHECK.due("replica 0 asked replica 1, so view", x.view(), 1);
        x.issue(Scene.ADD, 0, 1);
        CHECK.dueAll("asks replica 1", Scene.message(x, x.messages() - 1), 0, 4, 1, 0, 2, 0, 0);
    }

    private static void promise3Retry() {
        CHECK.about("promise 3");
        SpecOrder x = new SpecOrder(-1);
        CHECK.dueThrow("retry 0", ELEMENT, () -> x.retry(0));
        x.issue(Scene.SET, 2, 6);
        CHECK.dueThrow("retry -1", ELEMENT, () -> x.retry(-1));
        CHECK.dueThrow("retry 1", ELEMENT, () -> x.retry(1));
        CHECK.dueThrow("retry MAX", ELEMENT, () -> x.retry(Integer.MAX_VALUE));
        CHECK.due("retry, no reply", x.retry(0), 1);
        for (int i = 0; i < 4; i++) {
            CHECK.dueAll("question " + i, Scene.message(x, 1 + i), 0, 4, i, 0, 0, 0, 0);
        }
        Scene.loseAll(x, 1);
        x.deliver(0);
        // 5, 6, 7 are the orders, 8 the primary's reply, 9 and 10 those of replicas 1 and 2
        x.deliver(5);
        x.deliver(6);
        x.deliver(8);
        x.deliver(9);
        CHECK.due("retry, two replies", x.retry(0), 1);
        Scene.loseAll(x, 11);
        x.deliver(10);
        CHECK.due("retry, three replies", x.retry(0), 2);
        for (int i = 0; i < 4; i++) {
            CHECK.dueAll("proof " + i, Scene.message(x, 15 + i), 3, 4, i, 0, -1, 1, 0);
        }
        CHECK.due("a proof alone does not do it", x.request(0, 0), 1);
        x.deliver(15);
        x.deliver(16);
        x.deliver(18);
        CHECK.due("replica 3 has nothing to note, so messages", x.messages(), 21);
        x.deliver(17);
        CHECK.dueAll("an ack", Scene.message(x, 21), 4, 2, 4, 0, -1, 1, 0);
        x.deliver(19);
        x.deliver(20);
        CHECK.dueAll("with two acks", Scene.request(x, 0), 1, 0, 0, 3, 1);
        CHECK.due("retry, the same proof again", x.retry(0), 2);
        Scene.loseAll(x, 22);
        x.deliver(21);
        CHECK.dueAll("with three acks", Scene.request(x, 0), 2, 0, 1, 3, 1);
        int messages = x.messages();
        CHECK.due("retry, done", x.retry(0), 0);
        CHECK.due("messages", x.messages(), messages);
    }

    private static void promise3UnequalReplies() {
        CHECK.about("promise 3, unequal replies");
        SpecOrder x = new SpecOrder(0);
        x.issue(Scene.SET, 0, 1);
        x.issue(Scene.SET, 0, 2);
        x.lie(1, 0);
        x.lie(2, 0);
        x.lie(3, 1);
        x.lie(3, 0);
        x.flood(0);
        CHECK.dueAll("three unequal ones", Scene.request(x, 0), 1, 0, 0, 3, 0);
        CHECK.due("retry", x.retry(0), 1);
        Scene.loseAll(x, 0);
        CHECK.due("echo of the odd one", x.echo(3, 0), true);
        CHECK.due("retry", x.retry(0), 1);
        Scene.loseAll(x, 0);
        CHECK.due("echo, the later one is kept", x.echo(2, 0), true);
        CHECK.due("retry with 0, 1 and 2 equal", x.retry(0), 2);
        CHECK.dueAll("their place", Scene.message(x, x.messages() - 1), 3, 4, 3, 0, -1, 1, 0);
        // replica 3 has another request at place 1
        x.flood(0);
        CHECK.due("FIXED of replica 2", x.replica(2, 2), 1);
        CHECK.due("FIXED of replica 3", x.replica(3, 2), 0);
        CHECK.due("only two acks", x.request(0, 0), 1);
    }

    private static void promise4Deliver() {
        CHECK.about("promise 4");
        SpecOrder x = new SpecOrder(3);
        x.issue(Scene.SET, 0, 1);
        CHECK.due("deliver -1", x.deliver(-1), false);
        CHECK.due("deliver 1", x.deliver(1), false);
        CHECK.due("deliver MAX", x.deliver(Integer.MAX_VALUE), false);
        CHECK.due("deliver MIN", x.deliver(Integer.MIN_VALUE), false);
        CHECK.due("deliver 0", x.deliver(0), true);
        CHECK.due("deliver 0 again", x.deliver(0), false);
        CHECK.due("messages", x.messages(), 5);
        CHECK.due("deliver 3, to the faulty one", x.deliver(3), true);
        CHECK.due("it is delivered", x.message(3, 6), 1);
        CHECK.due("but gone", x.messages(), 5);
        x.lose(2);
        CHECK.due("deliver 2, a lost one", x.deliver(2), false);
        CHECK.due("replica 2 has no row", x.replica(2, 1), 0);
    }

    private static void promise5Flood() {
        CHECK.about("promise 5");
        SpecOrder x = new SpecOrder(-1);
        CHECK.due("nothing to flood", x.flood(0), 0);
        CHECK.dueThrow("flood -1", ARGUMENT, () -> x.flood(-1));
        CHECK.dueThrow("flood MIN", ARGUMENT, () -> x.flood(Integer.MIN_VALUE));
        x.issue(Scene.SET, 0, 1);
        x.issue(Scene.SET, 0, 2);
        CHECK.due("from past the end", x.flood(2), 0);
        CHECK.due("from MAX", x.flood(Integer.MAX_VALUE), 0);
        // request 1 alone: its question, three orders and four replies
        CHECK.due("from 1", x.flood(1), 8);
        CHECK.due("the one before is under way", x.message(0, 6), 0);
        CHECK.dueAll("row", Scene.row(x, 2), 1);
        x.deliver(0);
        x.lose(10);
        CHECK.due("three of four are left, and bring two replies", x.flood(0), 5);
        CHECK.dueAll("row of 1", Scene.row(x, 1), 1, 0);
        CHECK.dueAll("row of 2, whose order was lost", Scene.row(x, 2), 1);
        CHECK.due("nothing is left", x.flood(0), 0);
    }

    private static void promise6Lose() {
        CHECK.about("promise 6");
        SpecOrder x = new SpecOrder(1);
        CHECK.due("lose 0, none there", x.lose(0), false);
        x.issue(Scene.SET, 0, 1);
        CHECK.due("lose -1", x.lose(-1), false);
        CHECK.due("lose 1", x.lose(1), false);
        CHECK.due("lose MAX", x.lose(Integer.MAX_VALUE), false);
        CHECK.due("lose 0", x.lose(0), true);
        CHECK.due("it is lost", x.message(0, 6), 2);
        CHECK.due("lose 0 again", x.lose(0), false);
        CHECK.due("deliver it", x.deliver(0), false);
        CHECK.due("flood", x.flood(0), 0);
        CHECK.due("row of 0", x.replica(0, 1), 0);
        x.retry(0);
        x.deliver(1);
        CHECK.due("lose a delivered one", x.lose(1), false);
        CHECK.due("it stays delivered", x.message(1, 6), 1);
        CHECK.due("lose one to the faulty replica", x.lose(2), true);
    }

    private static void promise7Patience() {
        CHECK.about("promise 7");
        SpecOrder x = Scene.wanting(3, 1);
        for (int wrong : new int[] {-1, 4, 5, Integer.MAX_VALUE, Integer.MIN_VALUE}) {
            CHECK.dueThrow("patience " + wrong, ARGUMENT, () -> x.patience(wrong));
        }
        int first = x.messages();
        CHECK.due("nothing is wanted by 0", x.patience(0), false);
        CHECK.due("the faulty one", x.patience(3), false);
        CHECK.due("messages", x.messages(), first);
        CHECK.due("patience 2", x.patience(2), true);
        CHECK.dueAll("hate to 0", Scene.message(x, first), 5, 2, 0, 0, -1, 0, 0);
        CHECK.dueAll("hate to 1", Scene.message(x, first + 1), 5, 2, 1, 0, -1, 0, 0);
        CHECK.dueAll("hate to 3", Scene.message(x, first + 2), 5, 2, 3, 0, -1, 0, 0);
        CHECK.due("it hates itself", x.replica(2, 5), 4);
        CHECK.due("once more", x.patience(2), true);
        CHECK.due("still alone", x.replica(2, 0), 0);
        CHECK.due("but sent again", x.messages(), first + 6);
        x.deliver(first + 1);
        CHECK.due("patience 1", x.patience(1), true);
        CHECK.dueAll("two: itself changes, and is the new primary", Scene.replica(x, 1), 1, 0, 0, 1, 1, 0, 7);
        CHECK.due("three hates and no change", x.messages(), first + 9);
        x.deliver(first + 7);
        CHECK.due("the hate that 1 sent is of view 0, so 2 changes", x.replica(2, 0), 1);
        int change = x.messages() - 1;
        CHECK.dueAll("its change", Scene.message(x, change), 6, 2, 1, 1, -1, 0, 0);
        CHECK.due("patience of a changing one", x.patience(2), true);
        CHECK.dueAll("of view 1", Scene.message(x, x.messages() - 1), 5, 2, 3, 1, -1, 0, 0);
    }

    private static void patienceOfTheNewPrimary() {
        CHECK.about("promise 7, the new primary");
        SpecOrder x = Scene.wanting(0, 1);
        int first = x.messages();
        x.patience(2);
        x.patience(3);
        x.deliver(first + 2);
        x.deliver(first + 5);
        x.deliver(first + 6);
        x.deliver(first + 7);
        x.deliver(first + 1);
        CHECK.dueAll("1 has two changes and hates one", Scene.replica(x, 1), 0, 0, 0, 0, 1, 4, 7);
        CHECK.due("patience", x.patience(1), true);
        CHECK.dueAll("so it makes the new one at once", Scene.replica(x, 1), 1, 0, 0, 0, 1, 0, 7);
        CHECK.dueAll("the hate goes first", Scene.message(x, first + 10), 5, 1, 3, 0, -1, 0, 0);
        CHECK.dueAll("then the new one", Scene.message(x, first + 11), 7, 1, 0, 1, -1, 0, 0);
        CHECK.due("messages", x.messages(), first + 14);
    }

    private static void promise8Lie() {
        CHECK.about("promise 8");
        SpecOrder honest = new SpecOrder(-1);
        honest.issue(Scene.SET, 0, 1);
        CHECK.due("none is faulty", honest.lie(1, 0), false);
        CHECK.dueThrow("none is faulty, lie 4", ARGUMENT, () -> honest.lie(4, 0));
        CHECK.dueThrow("none is faulty, lie -1", ARGUMENT, () -> honest.lie(-1, 0));
        CHECK.dueThrow("none is faulty, request 1", ARGUMENT, () -> honest.lie(0, 1));
        SpecOrder x = new SpecOrder(0);
        CHECK.dueThrow("no request", ARGUMENT, () -> x.lie(1, 0));
        x.issue(Scene.SET, 0, 7);
        x.issue(Scene.ADD, 0, 2);
        Scene.loseAll(x, 0);
        CHECK.dueThrow("request -1", ARGUMENT, () -> x.lie(1, -1));
        CHECK.dueThrow("request 2", ARGUMENT, () -> x.lie(1, 2));
        CHECK.dueThrow("to itself", ARGUMENT, () -> x.lie(0, 0));
        CHECK.dueThrow("to 4", ARGUMENT, () -> x.lie(4, 0));
        CHECK.due("to 2", x.lie(2, 1), true);
        CHECK.dueAll("no order was sent, only the reply", Scene.message(x, 2), 2, 2, 4, 0, 1, 1, 0);
        CHECK.due("messages", x.messages(), 3);
        CHECK.due("to 2 again", x.lie(2, 1), false);
        CHECK.due("to 2, the next place", x.lie(2, 0), true);
        CHECK.dueAll("row", Scene.row(x, 2), 1, 0);
        CHECK.due("number", x.replica(2, 30), 7);
        CHECK.due("messages", x.messages(), 4);
        Scene.wantAt(x, 1, 0);
        Scene.wantAt(x, 3, 0);
        int first = x.messages();
        x.patience(1);
        x.patience(3);
        x.deliver(first + 2);
        CHECK.due("3 is in view", x.replica(3, 0), 1);
        CHECK.due("0 is not its primary", x.lie(3, 0), false);
        CHECK.due("1 is in view 0", x.lie(1, 0), true);
        CHECK.due("and wants nothing now", x.replica(1, 4), 0);
        lieToAChangingOne();
    }

    private static void lieToAChangingOne() {
        SpecOrder x = Scene.wanting(1, 1);
        CHECK.due("1 is not the primary of view 0", x.lie(2, 0), false);
        int first = x.messages();
        x.patience(2);
        x.patience(3);
        x.deliver(first + 2);
        CHECK.dueAll("3 is changing in view 1", Scene.replica(x, 3), 1, 0, 0, 1, 1, 0, 7);
        CHECK.due("so it does not do it", x.lie(3, 0), false);
        CHECK.due("row of 3", x.replica(3, 1), 0);
    }

    private static void promise9Echo() {
        CHECK.about("promise 9");
        SpecOrder honest = new SpecOrder(7);
        honest.issue(Scene.SET, 0, 1);
        honest.flood(0);
        CHECK.due("none is faulty", honest.echo(1, 0), false);
        CHECK.dueThrow("none is faulty, replica 4", ARGUMENT, () -> honest.echo(4, 0));
        CHECK.dueThrow("none is faulty, request 1", ARGUMENT, () -> honest.echo(1, 1));
        SpecOrder x = new SpecOrder(2);
        CHECK.dueThrow("no request", ARGUMENT, () -> x.echo(1, 0));
        x.issue(Scene.ADD, 3, 4);
        CHECK.dueThrow("request -1", ARGUMENT, () -> x.echo(1, -1));
        CHECK.dueThrow("the faulty one", ARGUMENT, () -> x.echo(2, 0));
        CHECK.dueThrow("replica -1", ARGUMENT, () -> x.echo(-1, 0));
        CHECK.dueThrow("replica 4", ARGUMENT, () -> x.echo(4, 0));
        CHECK.due("no reply yet", x.echo(0, 0), false);
        x.flood(0);
        CHECK.dueAll("open", Scene.request(x, 0), 1, 0, 0, 3, 0);
        int messages = x.messages();
        CHECK.due("echo", x.echo(3, 0), true);
        CHECK.dueAll("done by four", Scene.request(x, 0), 2, 4, 1, 4, 0);
        CHECK.due("messages", x.messages(), messages);
        CHECK.due("echo of what is done", x.echo(3, 0), true);
        echoOfALowerView();
    }

    private static void echoOfALowerView() {
        CHECK.about("promise 9, a lower view");
        SpecOrder x = new SpecOrder(0);
        x.issue(Scene.SET, 0, 1);
        x.issue(Scene.SET, 0, 2);
        Scene.loseAll(x, 0);
        x.lie(1, 0);
        x.lie(2, 0);
        x.lie(3, 0);
        x.flood(0);
        Scene.wantAt(x, 1, 1);
        Scene.wantAt(x, 2, 1);
        int first = x.messages();
        x.patience(1);
        x.patience(2);
        // replica 3 hears nothing of view 1 but sends its change
        x.deliver(first + 2);
        x.deliver(first + 5);
        x.deliver(first + 1);
        x.deliver(first + 4);
        int change = first + 6;
        x.deliver(change);
        x.deliver(change + 1);
        // 1 has replied in view 1, the replies of 2 and 3 are still those of view 0
        CHECK.dueAll("reply of 1", Scene.message(x, x.messages() - 1), 2, 1, 4, 1, 0, 1, 0);
        x.deliver(x.messages() - 1);
        CHECK.due("client's view", x.view(), 1);
        CHECK.due("echo of view 1", x.echo(1, 0), true);
        CHECK.due("two against two", x.retry(0), 1);
        CHECK.due("echo of view 0", x.echo(2, 0), true);
        CHECK.due("it is not kept", x.retry(0), 1);
        CHECK.due("view", x.view(), 1);
    }

    private static void promise10Replica() {
        CHECK.about("promise 10");
        SpecOrder x = new SpecOrder(-1);
        for (int what : new int[] {Integer.MIN_VALUE, -1, 7, 8, 9, 22, 29, 34, Integer.MAX_VALUE}) {
            CHECK.dueThrow("what " + what, ARGUMENT, () -> x.replica(0, what));
        }
        for (int replica : new int[] {Integer.MIN_VALUE, -1, 4, 5, Integer.MAX_VALUE}) {
            CHECK.dueThrow("replica " + replica, ARGUMENT, () -> x.replica(replica, 0));
        }
        for (int i = 0; i < 7; i++) {
            x.issue(Scene.ADD, i % 4, 1 + i);
        }
        x.flood(0);
        CHECK.dueAll("row", Scene.row(x, 3), 0, 1, 2, 3, 4, 5, 6);
        CHECK.due("place 8", x.replica(3, 17), SpecOrder.NONE);
        CHECK.due("place 12", x.replica(3, 21), SpecOrder.NONE);
        int digest = 7;
        for (int i = 0; i < 7; i++) {
            digest = 31 * digest + i + 1;
        }
        CHECK.dueAll("state, the digest wraps", Scene.replica(x, 3), 0, 7, 0, 0, 0, 0, digest);
        int[] numbers = {x.replica(1, 30), x.replica(1, 31), x.replica(1, 32), x.replica(1, 33)};
        CHECK.dueAll("numbers", numbers, 6, 8, 10, 4);
        SpecOrder y = Scene.wanting(-1, 3);
        CHECK.due("wanted as bits", y.replica(2, 4), 7);
        y.patience(3);
        CHECK.due("hated as bits", y.replica(3, 5), 8);
    }

    private static void promise11Messages() {
        CHECK.about("promise 11");
        SpecOrder x = new SpecOrder(-1);
        x.issue(Scene.SET, 0, 1);
        CHECK.due("messages", x.messages(), 1);
        x.lose(0);
        CHECK.due("a lost one counts", x.messages(), 1);
        for (int i = 0; i < 149; i++) {
            x.retry(0);
        }
        CHECK.due("messages", x.messages(), 597);
        CHECK.due("the last three that can be sent", x.retry(0), 1);
        CHECK.due("messages", x.messages(), 600);
        CHECK.due("receiver of the last", x.message(599, 2), 2);
        CHECK.dueThrow("no message 600", ELEMENT, () -> x.message(600, 0));
        CHECK.due("retry is as ever", x.retry(0), 1);
        CHECK.due("issue is as ever", x.issue(Scene.SET, 0, 2), 1);
        CHECK.due("messages", x.messages(), 600);
        CHECK.due("deliver 600", x.deliver(600), false);
        // the primary and the others do all that they do, but no one hears of it
        CHECK.due("deliver the last", x.deliver(599), true);
        CHECK.due("2 wants it", x.replica(2, 4), 1);
        CHECK.due("patience", x.patience(2), true);
        CHECK.due("flood", x.flood(0), 598);
        CHECK.due("row of 0", x.replica(0, 1), 1);
        CHECK.due("row of 1", x.replica(1, 1), 0);
        CHECK.due("replies", x.request(0, 3), 0);
        CHECK.due("messages", x.messages(), 600);
    }

    private static void promise12Message() {
        CHECK.about("promise 12");
        SpecOrder x = new SpecOrder(3);
        CHECK.dueThrow("none there", ELEMENT, () -> x.message(0, 0));
        x.issue(Scene.SET, 0, 1);
        for (int what : new int[] {Integer.MIN_VALUE, -1, 7, Integer.MAX_VALUE}) {
            CHECK.dueThrow("what " + what, ELEMENT, () -> x.message(0, what));
        }
        for (int message : new int[] {Integer.MIN_VALUE, -1, 1, 600, Integer.MAX_VALUE}) {
            CHECK.dueThrow("message " + message, ELEMENT, () -> x.message(message, 0));
        }
        x.flood(0);
        x.retry(0);
        x.flood(0);
        CHECK.dueAll("ASK", Scene.message(x, 0), 0, 4, 0, 0, 0, 0, 1);
        CHECK.dueAll("ORDER", Scene.message(x, 2), 1, 0, 2, 0, 0, 1, 1);
        CHECK.dueAll("REPLY", Scene.message(x, 5), 2, 1, 4, 0, 0, 1, 1);
        CHECK.dueAll("PROOF", Scene.message(x, 7), 3, 4, 0, 0, -1, 1, 1);
        CHECK.dueAll("ACK", Scene.message(x, 12), 4, 1, 4, 0, -1, 1, 1);
        x.issue(Scene.SET, 0, 2);
        Scene.loseAll(x, 0);
        Scene.wantAt(x, 1, 1);
        Scene.wantAt(x, 2, 1);
        int first = x.messages();
        Scene.changeView(x, 1, 2);
        CHECK.dueAll("HATE", Scene.message(x, first), 5, 1, 0, 0, -1, 0, 1);
        CHECK.dueAll("CHANGE", Scene.message(x, first + 6), 6, 2, 1, 1, -1, 1, 1);
        CHECK.dueAll("NEW", Scene.message(x, first + 8), 7, 1, 0, 1, -1, 1, 1);
        CHECK.dueAll("REPLY of the new primary", Scene.message(x, first + 11), 2, 1, 4, 1, 0, 1, 1);
        CHECK.dueAll("FIXED goes with it", Scene.replica(x, 2), 1, 1, 1, 0, 2, 0, 218);
    }

    private static void promise13Request() {
        CHECK.about("promise 13");
        SpecOrder x = new SpecOrder(-1);
        CHECK.dueThrow("none there", ELEMENT, () -> x.request(0, 0));
        x.issue(Scene.ADD, 0, 3);
        for (int what : new int[] {Integer.MIN_VALUE, -1, 5, Integer.MAX_VALUE}) {
            CHECK.dueThrow("what " + what, ELEMENT, () -> x.request(0, what));
        }
        for (int request : new int[] {Integer.MIN_VALUE, -1, 1, 12, Integer.MAX_VALUE}) {
            CHECK.dueThrow("request " + request, ELEMENT, () -> x.request(request, 0));
        }
        x.deliver(0);
        x.deliver(1);
        x.deliver(2);
        x.deliver(3);
        for (int i = 0; i < 3; i++) {
            CHECK.dueAll("open", Scene.request(x, 0), 1, 0, 0, i, 0);
            x.deliver(4 + i);
        }
        CHECK.dueAll("three replies", Scene.request(x, 0), 1, 0, 0, 3, 0);
        x.retry(0);
        CHECK.dueAll("a proof was sent", Scene.request(x, 0), 1, 0, 0, 3, 1);
        x.deliver(7);
        CHECK.dueAll("done", Scene.request(x, 0), 2, 3, 1, 4, 1);
        x.flood(0);
        CHECK.dueAll("still done", Scene.request(x, 0), 2, 3, 1, 4, 1);
    }

    private static void promise14View() {
        CHECK.about("promise 14");
        SpecOrder x = new SpecOrder(-1);
        x.issue(Scene.SET, 0, 1);
        x.flood(0);
        x.issue(Scene.SET, 0, 2);
        Scene.loseAll(x, 0);
        Scene.want(x, 1);
        Scene.changeView(x, 1, 2);
        CHECK.due("view", x.view(), 1);
        Scene.changeView(x, 2, 3);
        CHECK.due("view", x.view(), 2);
        Scene.changeView(x, 1, 3);
        Scene.changeView(x, 1, 2);
        CHECK.due("view", x.view(), 4);
        x.retry(1);
        x.flood(0);
        CHECK.dueAll("the primary of view 4 is 0", Scene.row(x, 3), 0, 1);
        CHECK.due("done", x.request(1, 0), 2);
        x.issue(Scene.READ, 0, 0);
        CHECK.due("asks", x.message(x.messages() - 1, 2), 0);
    }
}
