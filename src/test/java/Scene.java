import java.util.Arrays;

/** What the tests share: the state of an object as rows of numbers, and ways into a state. */
final class Scene {
    static final int SET = 0;
    static final int ADD = 1;
    static final int READ = 2;

    static final int ASK = 0;
    static final int ORDER = 1;
    static final int REPLY = 2;
    static final int PROOF = 3;
    static final int ACK = 4;
    static final int HATE = 5;
    static final int CHANGE = 6;
    static final int NEW = 7;

    static final int CLIENT = 4;
    static final int NONE = SpecOrder.NONE;

    /** Two unlike rows of the same digest; there are none of up to six requests. */
    static final int[] ROW = {0, 6, 1, 11, 5, 10, 2};
    static final int[] ROW_LIKE_IT = {5, 1, 2, 0, 4, 3, 6};

    /** Numbers that no call takes for a replica. */
    static final int[] NO_REPLICAS = {Integer.MIN_VALUE, -1, 4, 5, Integer.MAX_VALUE};

    private Scene() {
    }

    /** VIEW, length of the row, FIXED, changing, WANTED, HATED and digest of a replica. */
    static int[] replica(SpecOrder x, int replica) {
        int[] facts = new int[7];
        for (int what = 0; what < 7; what++) {
            facts[what] = x.replica(replica, what);
        }
        return facts;
    }

    static int[] row(SpecOrder x, int replica) {
        int[] row = new int[x.replica(replica, 1)];
        for (int i = 0; i < row.length; i++) {
            row[i] = x.replica(replica, 10 + i);
        }
        return row;
    }

    static int[] numbers(SpecOrder x, int replica) {
        return new int[] {x.replica(replica, 30), x.replica(replica, 31), x.replica(replica, 32),
            x.replica(replica, 33)};
    }

    /** Kind, sender, receiver, view, request, place and state of a message. */
    static int[] message(SpecOrder x, int message) {
        int[] facts = new int[7];
        for (int what = 0; what < 7; what++) {
            facts[what] = x.message(message, what);
        }
        return facts;
    }

    static int[] lastMessage(SpecOrder x) {
        return message(x, x.messages() - 1);
    }

    /** Open or done, result, place, replies and proof of a request. */
    static int[] request(SpecOrder x, int request) {
        int[] facts = new int[5];
        for (int what = 0; what < 5; what++) {
            facts[what] = x.request(request, what);
        }
        return facts;
    }

    /** All that can be asked of an object that has so many requests. */
    static int[] state(SpecOrder x, int requests) {
        int messages = x.messages();
        int[] state = new int[2 + 4 * 23 + 5 * requests + 7 * messages];
        int n = 0;
        state[n++] = messages;
        state[n++] = x.view();
        for (int i = 0; i < 4; i++) {
            n = put(state, n, replica(x, i));
            n = put(state, n, numbers(x, i));
            for (int k = 10; k < 22; k++) {
                state[n++] = x.replica(i, k);
            }
        }
        for (int i = 0; i < requests; i++) {
            n = put(state, n, request(x, i));
        }
        for (int i = 0; i < messages; i++) {
            n = put(state, n, message(x, i));
        }
        return state;
    }

    private static int put(int[] state, int at, int[] facts) {
        System.arraycopy(facts, 0, state, at, facts.length);
        return at + facts.length;
    }

    static int digest(int... row) {
        int digest = 7;
        for (int request : row) {
            digest = 31 * digest + request + 1;
        }
        return digest;
    }

    /** The first message of a kind, sender, receiver and view is delivered; false if there is none. */
    static boolean pass(SpecOrder x, int kind, int from, int to, int view) {
        int end = x.messages();
        for (int i = 0; i < end; i++) {
            if (x.message(i, 0) == kind && x.message(i, 2) == to && x.message(i, 1) == from
                    && x.message(i, 3) == view) {
                return x.deliver(i);
            }
        }
        return false;
    }

    /** The newest message under way of a kind from one to another is delivered; false if there is none. */
    static boolean pass(SpecOrder x, int kind, int from, int to) {
        for (int i = x.messages() - 1; i >= 0; i--) {
            if (x.message(i, 0) == kind && x.message(i, 2) == to && x.message(i, 1) == from
                    && x.message(i, 6) == 0) {
                return x.deliver(i);
            }
        }
        return false;
    }

    /** Requests that each add 1 to key 0; only the client's questions are under way. */
    static SpecOrder issued(int faulty, int requests) {
        SpecOrder x = new SpecOrder(faulty);
        for (int i = 0; i < requests; i++) {
            x.issue(ADD, 0, 1);
        }
        return x;
    }

    /** The same, and all was delivered that came of it. */
    static SpecOrder flooded(int faulty, int requests) {
        SpecOrder x = issued(faulty, requests);
        x.flood(0);
        return x;
    }

    /** Replica 0 is faulty, and the others know nothing yet of so many requests. */
    static SpecOrder underALiar(int requests) {
        SpecOrder x = issued(0, requests);
        loseAll(x, 0);
        return x;
    }

    static void lies(SpecOrder x, int to, int... requests) {
        for (int request : requests) {
            if (!x.lie(to, request)) {
                throw new IllegalStateException("replica " + to + " does not take " + request + " after "
                        + Arrays.toString(row(x, to)));
            }
        }
    }

    /** Requests that the primary never got, and that replicas 1, 2 and 3 want: all messages are gone. */
    static SpecOrder wanting(int faulty, int requests) {
        SpecOrder x = new SpecOrder(faulty);
        for (int i = 0; i < requests; i++) {
            int ask = x.messages();
            x.issue(SET, 0, 10 + i);
            x.lose(ask);
            want(x, i);
        }
        return x;
    }

    /** Replicas 1, 2 and 3 get the client's question, replica 0 hears nothing of it. */
    static void want(SpecOrder x, int request) {
        int first = x.messages();
        x.retry(request);
        x.lose(first);
        int asks = x.messages();
        for (int i = 1; i < 4; i++) {
            x.deliver(first + i);
        }
        loseAll(x, asks);
    }

    /** One replica gets the client's question; all that is sent for it or after it is lost. */
    static void wantAt(SpecOrder x, int replica, int request) {
        int first = x.messages();
        x.retry(request);
        x.deliver(first + replica);
        loseAll(x, first);
    }

    static void loseAll(SpecOrder x, int from) {
        int end = x.messages();
        for (int i = from; i < end; i++) {
            x.lose(i);
        }
    }

    /** Two replicas lose patience, and all that comes of it is delivered. */
    static void changeView(SpecOrder x, int one, int other) {
        int first = x.messages();
        x.patience(one);
        x.patience(other);
        x.flood(first);
    }

    /** The client asks again and again until so many messages were sent; new requests make up for what is odd. */
    static void fill(SpecOrder x, int request, int upTo) {
        int sent = x.messages();
        for (; (upTo - sent) % 4 != 0; sent++) {
            x.issue(READ, 0, 0);
        }
        for (; sent < upTo; sent += 4) {
            x.retry(request);
        }
    }
}
