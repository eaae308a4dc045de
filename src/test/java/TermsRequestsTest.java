/** The document's Terms: requests, sentence by sentence. */
public final class TermsRequestsTest {
    private static final int MAX = Integer.MAX_VALUE;
    private static final int MIN = Integer.MIN_VALUE;
    private static final Check CHECK = new Check();

    public static void main(String[] args) {
        Part part = Part.terms(CHECK, "REQUESTS 0, 1");
        part.test("REQUESTS 0, 1, .., at most 12", TermsRequestsTest::atMost12);
        part.test("an OP (0 SET, 1 ADD, 2 READ), a KEY 0 .. 3 and an AMOUNT", TermsRequestsTest::opKeyAndAmount);
        part.test("Done in some order from four numbers 0 on", TermsRequestsTest::fromFourNumbers0On);
        part.test("Done in some order", TermsRequestsTest::inSomeOrder);
        part.test("SET gives what its key had", TermsRequestsTest::setGivesWhatItsKeyHad);
        part.test("ADD and READ what it has then", TermsRequestsTest::addAndReadWhatItHasThen);
        part.test("(ints that wrap)", TermsRequestsTest::intsThatWrap);
        part.test("that is its RESULT", TermsRequestsTest::thatIsItsResult);
        part.end();
        CHECK.end();
    }

    /** Each is {op, key, amount, result that is due}, done in this order. */
    private static SpecOrder done(int[][] requests) {
        SpecOrder x = new SpecOrder(-1);
        for (int[] r : requests) {
            x.issue(r[0], r[1], r[2]);
        }
        x.flood(0);
        for (int i = 0; i < requests.length; i++) {
            CHECK.due("result of request " + i, x.request(i, 1), requests[i][3]);
        }
        return x;
    }

    private static void atMost12() {
        SpecOrder x = new SpecOrder(-1);
        for (int i = 0; i < 12; i++) {
            int next = i;
            CHECK.dueThrow("request " + i + " is not there yet", Check.ELEMENT, () -> x.request(next, 0));
            CHECK.due("issue", x.issue(Scene.ADD, 1, 1), i);
        }
        CHECK.dueThrow("a 13th", Check.STATE, () -> x.issue(Scene.ADD, 1, 1));
        x.flood(0);
        CHECK.dueAll("all are in the row", Scene.row(x, 2), 0, 1, 2, 3, 4, 5, 6, 7, 8, 9, 10, 11);
        CHECK.due("and done", x.replica(2, 31), 12);
    }

    private static void opKeyAndAmount() {
        // each op with each key, and amounts from end to end
        SpecOrder x = done(new int[][] {{0, 0, MIN, 0}, {0, 1, MAX, 0}, {0, 2, 0, 0}, {0, 3, -1, 0}, {1, 0, 0, MIN},
            {1, 1, 0, MAX}, {1, 2, MAX, MAX}, {1, 3, MIN, MAX}, {2, 0, 0, MIN}, {2, 1, MAX, MAX}, {2, 2, MIN, MAX},
            {2, 3, 1, MAX}});
        CHECK.dueAll("numbers", Scene.numbers(x, 1), MIN, MAX, MAX, MAX);
    }

    private static void fromFourNumbers0On() {
        done(new int[][] {{2, 0, 9, 0}, {2, 1, 9, 0}, {2, 2, 9, 0}, {2, 3, 9, 0}, {0, 0, 9, 0}, {1, 1, 9, 9},
            {2, 2, 0, 0}});
    }

    private static void inSomeOrder() {
        SpecOrder x = new SpecOrder(-1);
        x.issue(Scene.SET, 0, 5);
        x.issue(Scene.ADD, 0, 2);
        x.issue(Scene.READ, 0, 0);
        x.deliver(2);
        x.deliver(1);
        x.flood(0);
        CHECK.dueAll("the READ came first", Scene.request(x, 2), 2, 0, 1, 4, 0);
        CHECK.dueAll("then the ADD", Scene.request(x, 1), 2, 2, 2, 4, 0);
        CHECK.dueAll("then the SET", Scene.request(x, 0), 2, 2, 3, 4, 0);
        CHECK.due("number 0", x.replica(3, 30), 5);
    }

    private static void setGivesWhatItsKeyHad() {
        SpecOrder x = done(new int[][] {{0, 3, 5, 0}, {0, 3, -6, 5}, {0, 3, -6, -6}, {0, 3, 0, -6}, {0, 3, 1, 0}});
        CHECK.dueAll("numbers", Scene.numbers(x, 0), 0, 0, 0, 1);
    }

    private static void addAndReadWhatItHasThen() {
        SpecOrder x = done(new int[][] {{1, 2, 5, 5}, {2, 2, 77, 5}, {1, 2, -7, -2}, {2, 2, -77, -2}, {1, 2, 0, -2},
            {1, 2, 2, 0}});
        CHECK.dueAll("numbers", Scene.numbers(x, 0), 0, 0, 0, 0);
    }

    private static void intsThatWrap() {
        SpecOrder x = done(new int[][] {{0, 1, MAX, 0}, {1, 1, 1, MIN}, {1, 1, -1, MAX}, {1, 1, MAX, -2},
            {0, 1, MIN, -2}, {1, 1, MIN, 0}, {1, 1, MIN, MIN}, {1, 1, -1, MAX}, {2, 1, 1, MAX}});
        CHECK.dueAll("numbers", Scene.numbers(x, 3), 0, MAX, 0, 0);
    }

    private static void thatIsItsResult() {
        SpecOrder x = new SpecOrder(3);
        x.issue(Scene.ADD, 0, 8);
        x.issue(Scene.ADD, 0, 30);
        x.flood(0);
        x.retry(1);
        x.flood(0);
        CHECK.dueAll("by a proof", Scene.request(x, 1), 2, 38, 2, 3, 1);
        x.echo(0, 0);
        CHECK.dueAll("by four, as it was when it was done", Scene.request(x, 0), 2, 8, 1, 4, 0);
    }
}
