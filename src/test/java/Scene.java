/** What the tests of the promises share: the state of an object as rows of numbers, and ways into a state. */
final class Scene {
    static final int SET = 0;
    static final int ADD = 1;
    static final int READ = 2;
    static final int HATE = 5;
    static final int CHANGE = 6;

    private Scene() {
    }

    static int[] replica(SpecOrder x, int replica) {
        int[] facts = new int[7];
        for (int what = 0; what < 7; what++) {
            facts[what] = x.replica(replica, what);
        }
        return facts;
    }

    static int[] row(SpecOrder x, int replica) {
        int[] row = new int[x.replica(replica, 1)];
        for (int i = 0; i < row.length; i++) {
            row[i] = x.replica(replica, 10 + i);
        }
        return row;
    }

    static int[] message(SpecOrder x, int message) {
        int[] facts = new int[7];
        for (int what = 0; what < 7; what++) {
            facts[what] = x.message(message, what);
        }
        return facts;
    }

    /** The number of the first message of a kind, sender, receiver and view; NONE if there is none. */
    static int find(SpecOrder x, int kind, int from, int to, int view) {
        for (int i = 0; i < x.messages(); i++) {
            if (x.message(i, 0) == kind && x.message(i, 1) == from && x.message(i, 2) == to
                    && x.message(i, 3) == view) {
                return i;
            }
        }
        return SpecOrder.NONE;
    }

    static int[] request(SpecOrder x, int request) {
        int[] facts = new int[5];
        for (int what = 0; what < 5; what++) {
            facts[what] = x.request(request, what);
        }
        return facts;
    }

    /** Requests that the primary never got, and that replicas 1, 2 and 3 want: all messages are gone. */
    static SpecOrder wanting(int faulty, int requests) {
        SpecOrder x = new SpecOrder(faulty);
        for (int i = 0; i < requests; i++) {
            x.issue(SET, 0, 10 + i);
            loseAll(x, 0);
            want(x, i);
        }
        return x;
    }

    /** Replicas 1, 2 and 3 get the client's question, replica 0 hears nothing of it. */
    static void want(SpecOrder x, int request) {
        int first = x.messages();
        x.retry(request);
        x.lose(first);
        int asks = x.messages();
        for (int i = 1; i < 4; i++) {
            x.deliver(first + i);
        }
        loseAll(x, asks);
    }

    /** One replica gets the client's question; all that is sent for it or after it is lost. */
    static void wantAt(SpecOrder x, int replica, int request) {
        int first = x.messages();
        x.retry(request);
        x.deliver(first + replica);
        loseAll(x, first);
    }

    static void loseAll(SpecOrder x, int from) {
        for (int i = from; i < x.messages(); i++) {
            x.lose(i);
        }
    }

    /** Two replicas lose patience, and all that comes of it is delivered. */
    static void changeView(SpecOrder x, int one, int other) {
        int first = x.messages();
        x.patience(one);
        x.patience(other);
        x.flood(first);
    }
}
