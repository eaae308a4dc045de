import java.util.NoSuchElementException;

/**
 * Four replicas that do what their primary orders before they know whether the others do the same,
 * the client that asks them, and the messages between them. The document says what each call does.
 */
public final class SpecOrder {
    public static final int NONE = -1;

    private static final int REPLICAS = 4;
    private static final int CLIENT = 4;
    private static final int KEYS = 4;
    private static final int MOST_REQUESTS = 12;
    private static final int MOST_MESSAGES = 600;

    private static final int SET = 0;
    private static final int ADD = 1;
    private static final int READ = 2;

    private static final int ASK = 0;
    private static final int ORDER = 1;
    private static final int REPLY = 2;
    private static final int PROOF = 3;
    private static final int ACK = 4;
    private static final int HATE = 5;
    private static final int CHANGE = 6;
    private static final int NEW = 7;

    /** Where replica() begins to tell the row, and the four numbers. */
    private static final int FIRST_PLACE = 10;
    private static final int FIRST_NUMBER = 30;

    private static final int UNDER_WAY = 0;
    private static final int DELIVERED = 1;
    private static final int LOST = 2;

    /** How many have to agree where one of the four may be faulty. */
    private static final int ENOUGH = 3;
    /** How many of four hold at least one that is not faulty. */
    private static final int ONE_IS_HONEST = 2;

    private final int faulty;
    private final Post post;
    private final Client client;
    private final Replica[] replicas;

    public SpecOrder(int faulty) {
        Request[] requests = new Request[MOST_REQUESTS];
        Post shared = new Post();
        this.faulty = isReplica(faulty) ? faulty : NONE;
        post = shared;
        client = new Client(requests, shared);
        replicas = new Replica[REPLICAS];
        for (int i = 0; i < REPLICAS; i++) {
            replicas[i] = new Replica(i, requests, shared);
        }
    }

    public int issue(int op, int key, int amount) throws IllegalArgumentException, IllegalStateException {
        if (op < SET || op > READ || key < 0 || key >= KEYS) {
            throw new IllegalArgumentException("no such op or key");
        }
        if (client.count >= MOST_REQUESTS) {
            throw new IllegalStateException("there are 12 requests");
        }
        return client.begin(new Request(op, key, amount));
    }

    public int retry(int request) throws NoSuchElementException {
        Request found = client.find(request);
        if (found == null) {
            throw new NoSuchElementException("no such request");
        }
        return client.tryAgain(request, found);
    }

    public boolean deliver(int message) {
        return handOver(message);
    }

    public int flood(int from) throws IllegalArgumentException {
        if (from < 0) {
            throw new IllegalArgumentException("from is below 0");
        }
        int delivered = 0;
        // the count is read anew each time, since what is sent meanwhile is delivered, too
        for (int i = from; i < MOST_MESSAGES && i < post.count; i++) {
            if (handOver(i)) {
                delivered++;
            }
        }
        return delivered;
    }

    public boolean lose(int message) {
        Message found = post.find(message);
        if (found == null || found.state != UNDER_WAY) {
            return false;
        }
        found.state = LOST;
        return true;
    }

    public boolean patience(int replica) throws IllegalArgumentException {
        if (!isReplica(replica)) {
            throw new IllegalArgumentException("no such replica");
        }
        return replica != faulty && replicas[replica].endPatience();
    }

    public boolean lie(int to, int request) throws IllegalArgumentException {
        if (!isReplica(to) || to == faulty || client.find(request) == null) {
            throw new IllegalArgumentException("no such replica or request, or the faulty one");
        }
        Replica victim = replicas[to];
        if (faulty == NONE || primaryOf(victim.view) != faulty) {
            return false;
        }
        int before = victim.history.length;
        victim.take(faulty, victim.fittingOrder(request));
        return victim.history.length > before;
    }

    public boolean echo(int replica, int request) throws IllegalArgumentException {
        Request found = client.find(request);
        if (!isReplica(replica) || replica == faulty || found == null) {
            throw new IllegalArgumentException("no such replica or request, or the faulty one");
        }
        Letter reply = found.replies[replica];
        if (faulty == NONE || reply == null) {
            return false;
        }
        client.take(faulty, reply);
        return true;
    }

    public int replica(int replica, int what) throws IllegalArgumentException {
        boolean state = what >= 0 && what <= 6;
        boolean place = what >= FIRST_PLACE && what < FIRST_PLACE + MOST_REQUESTS;
        boolean number = what >= FIRST_NUMBER && what < FIRST_NUMBER + KEYS;
        if (!isReplica(replica) || !(state || place || number)) {
            throw new IllegalArgumentException("no such replica or what");
        }
        Replica found = replicas[replica];
        if (number) {
            return found.numbers[what - FIRST_NUMBER];
        }
        return place ? found.history.at(what - FIRST_PLACE) : found.tell(what);
    }

    public int messages() {
        return post.count;
    }

    public int message(int message, int what) throws NoSuchElementException {
        Message found = post.find(message);
        if (found == null || what < 0 || what > 6) {
            throw new NoSuchElementException("no such message or what");
        }
        return found.tell(what);
    }

    public int request(int request, int what) throws NoSuchElementException {
        Request found = client.find(request);
        if (found == null || what < 0 || what > 4) {
            throw new NoSuchElementException("no such request or what");
        }
        return found.tell(what);
    }

    public int view() {
        return client.view;
    }

    private boolean handOver(int number) {
        Message found = post.find(number);
        if (found == null || found.state != UNDER_WAY) {
            return false;
        }
        found.state = DELIVERED;
        if (found.to == CLIENT) {
            client.take(found.from, found.letter);
        } else if (isReplica(found.to) && found.to != faulty) {
            replicas[found.to].take(found.from, found.letter);
        }
        return true;
    }

    private static boolean isReplica(int number) {
        return number >= 0 && number < REPLICAS;
    }

    private static int primaryOf(int view) {
        return view % REPLICAS;
    }

    private static Letter askFor(int request) {
        return new Letter(ASK, 0, request, 0, 0, 0, null);
    }

    /** What a message says; never changed, so that all receivers, and who keeps it, share it. */
    private static final class Letter {
        private final int kind;
        private final int view;
        private final int request;
        private final int place;
        private final int digest;
        private final int result;
        /** The row and FIXED of a CHANGE or NEW; null in all others. */
        private final History history;

        Letter(int kind, int view, int request, int place, int digest, int result, History history) {
            this.kind = kind;
            this.view = view;
            this.request = request;
            this.place = place;
            this.digest = digest;
            this.result = result;
            this.history = history;
        }

        boolean samePoint(Letter other) {
            return view == other.view && place == other.place && digest == other.digest;
        }

        boolean sameReply(Letter other) {
            return samePoint(other) && request == other.request && result == other.result;
        }
    }

    private static final class Message {
        private final int from;
        private final int to;
        private final Letter letter;
        private int state = UNDER_WAY;

        Message(int from, int to, Letter letter) {
            this.from = from;
            this.to = to;
            this.letter = letter;
        }

        int tell(int what) {
            switch (what) {
                case 0: return letter.kind;
                case 1: return from;
                case 2: return to;
                case 3: return letter.view;
                case 4: return letter.request;
                case 5: return letter.place;
                default: return state;
            }
        }
    }

    /** All messages that were ever sent. */
    private static final class Post {
        private final Message[] sent = new Message[MOST_MESSAGES];
        private int count = 0;

        void send(int from, int to, Letter letter) {
            if (count < MOST_MESSAGES) {
                sent[count] = new Message(from, to, letter);
                count++;
            }
        }

        void sendToAll(int from, Letter letter) {
            for (int to = 0; to < REPLICAS; to++) {
                if (to != from) {
                    send(from, to, letter);
                }
            }
        }

        Message find(int number) {
            return number >= 0 && number < count ? sent[number] : null;
        }
    }

    /** A row and its FIXED, which always travel together. */
    private static final class History {
        private final int[] row = new int[MOST_REQUESTS];
        private int length = 0;
        private int fixed = 0;

        void add(int request) {
            if (length < MOST_REQUESTS) {
                row[length] = request;
                length++;
            }
        }

        int at(int index) {
            return index >= 0 && index < length ? row[index] : NONE;
        }

        /** The place of a request, from 1 on; 0 if it is not there. */
        int placeOf(int request) {
            for (int i = 0; i < length; i++) {
                if (row[i] == request) {
                    return i + 1;
                }
            }
            return 0;
        }

        int digest(int places) {
            int digest = 7;
            for (int i = 0; i < places && i < length; i++) {
                digest = digestWith(digest, row[i]);
            }
            return digest;
        }

        boolean beginsWith(History other) {
            if (length < other.length) {
                return false;
            }
            for (int i = 0; i < other.length; i++) {
                if (row[i] != other.row[i]) {
                    return false;
                }
            }
            return true;
        }

        History copy() {
            History copy = new History();
            System.arraycopy(row, 0, copy.row, 0, length);
            copy.length = length;
            copy.fixed = fixed;
            return copy;
        }

        static int digestWith(int digest, int request) {
            return 31 * digest + request + 1;
        }
    }

    /** A request, and what the client knows of it. */
    private static final class Request {
        private final int op;
        private final int key;
        private final int amount;
        private final Letter[] replies = new Letter[REPLICAS];
        /** One of the equal REPLIES by which the latest PROOF was sent; null if none was. */
        private Letter proof = null;
        private boolean done = false;
        private int result = 0;
        private int place = 0;

        Request(int op, int key, int amount) {
            this.op = op;
            this.key = key;
            this.amount = amount;
        }

        int doOn(int[] numbers) {
            int before = numbers[key];
            if (op == SET) {
                numbers[key] = amount;
                return before;
            }
            if (op == ADD) {
                numbers[key] = before + amount;
            }
            return numbers[key];
        }

        void keep(int from, Letter reply) {
            Letter old = replies[from];
            if (old == null || old.view <= reply.view) {
                replies[from] = reply;
            }
        }

        /** The REPLY that so many replicas agree on, null if there is none. */
        Letter agreedBy(int many) {
            for (int i = 0; i < REPLICAS; i++) {
                if (replies[i] != null && countLike(replies[i]) >= many) {
                    return replies[i];
                }
            }
            return null;
        }

        private int countLike(Letter reply) {
            int count = 0;
            for (int i = 0; i < REPLICAS; i++) {
                if (replies[i] != null && replies[i].sameReply(reply)) {
                    count++;
                }
            }
            return count;
        }

        void finish(Letter reply) {
            done = true;
            result = reply.result;
            place = reply.place;
        }

        int tell(int what) {
            switch (what) {
                case 0: return done ? 2 : 1;
                case 1: return result;
                case 2: return place;
                case 3: return countReplies();
                default: return proof != null ? 1 : 0;
            }
        }

        private int countReplies() {
            int count = 0;
            for (int i = 0; i < REPLICAS; i++) {
                if (replies[i] != null) {
                    count++;
                }
            }
            return count;
        }
    }

    private static final class Client {
        private final Request[] requests;
        private final Post post;
        private final Letter[] acks = new Letter[REPLICAS];
        private int count = 0;
        private int view = 0;

        Client(Request[] requests, Post post) {
            this.requests = requests;
            this.post = post;
        }

        Request find(int number) {
            return number >= 0 && number < count ? requests[number] : null;
        }

        int begin(Request request) {
            if (count >= MOST_REQUESTS) {
                return NONE;
            }
            int number = count;
            requests[number] = request;
            count++;
            post.send(CLIENT, primaryOf(view), askFor(number));
            return number;
        }

        int tryAgain(int number, Request request) {
            if (request.done) {
                return 0;
            }
            Letter agreed = request.agreedBy(ENOUGH);
            if (agreed == null) {
                post.sendToAll(CLIENT, askFor(number));
                return 1;
            }
            request.proof = agreed;
            post.sendToAll(CLIENT, new Letter(PROOF, agreed.view, NONE, agreed.place, agreed.digest, 0, null));
            return 2;
        }

        void take(int from, Letter letter) {
            if (!isReplica(from)) {
                return;
            }
            if (letter.kind == REPLY) {
                view = Math.max(view, letter.view);
                Request request = find(letter.request);
                if (request != null) {
                    request.keep(from, letter);
                    lookAt(request);
                }
            } else if (letter.kind == ACK) {
                acks[from] = letter;
                for (int i = 0; i < count; i++) {
                    lookAt(requests[i]);
                }
            }
        }

        private void lookAt(Request request) {
            if (request == null || request.done) {
                return;
            }
            Letter agreed = request.agreedBy(REPLICAS);
            if (agreed != null) {
                request.finish(agreed);
            } else if (request.proof != null && countAcks(request.proof) >= ENOUGH) {
                request.finish(request.proof);
            }
        }

        private int countAcks(Letter proof) {
            int count = 0;
            for (int i = 0; i < REPLICAS; i++) {
                if (acks[i] != null && acks[i].samePoint(proof)) {
                    count++;
                }
            }
            return count;
        }
    }

    private static final class Replica {
        private final int id;
        private final Request[] requests;
        private final Post post;
        private final History history = new History();
        private final int[] numbers = new int[KEYS];
        /** The result of the request at each place of the row. */
        private final int[] results = new int[MOST_REQUESTS];
        /** The CHANGE that is kept from each replica, null if there is none. */
        private final Letter[] changes = new Letter[REPLICAS];
        private int view = 0;
        private boolean changing = false;
        private int wanted = 0;
        private int hated = 0;

        Replica(int id, Request[] requests, Post post) {
            this.id = id;
            this.requests = requests;
            this.post = post;
        }

        int tell(int what) {
            switch (what) {
                case 0: return view;
                case 1: return history.length;
                case 2: return history.fixed;
                case 3: return changing ? 1 : 0;
                case 4: return wanted;
                case 5: return hated;
                default: return history.digest(history.length);
            }
        }

        /** The ORDER by which the primary of this one's view would give it a request next. */
        Letter fittingOrder(int request) {
            int digest = History.digestWith(history.digest(history.length), request);
            return new Letter(ORDER, view, request, history.length + 1, digest, 0, null);
        }

        void take(int from, Letter letter) {
            switch (letter.kind) {
                case ASK:
                    takeAsk(from, letter.request);
                    break;
                case ORDER:
                    takeOrder(from, letter);
                    break;
                case PROOF:
                    takeProof(letter);
                    break;
                case HATE:
                    takeHate(from, letter.view);
                    break;
                case CHANGE:
                    keepChange(from, letter);
                    break;
                case NEW:
                    if (letter.history != null && mayTurn(from, letter.view)) {
                        turnTo(letter.view, letter.history);
                    }
                    break;
                default:
                    break;
            }
            // a HATE may have brought its own CHANGE as the last that was missing
            if (changing && primaryOf(view) == id && countChanges() >= ENOUGH) {
                History start = mergeChanges();
                post.sendToAll(id, new Letter(NEW, view, NONE, start.length, 0, 0, start));
                turnTo(view, start);
            }
        }

        boolean endPatience() {
            if (!changing && wanted == 0) {
                return false;
            }
            Letter hate = new Letter(HATE, view, NONE, 0, 0, 0, null);
            post.sendToAll(id, hate);
            take(id, hate);
            return true;
        }

        private void takeAsk(int from, int request) {
            if (changing) {
                return;
            }
            int primary = primaryOf(view);
            int place = history.placeOf(request);
            if (place > 0) {
                reply(place);
                if (primary == id) {
                    post.sendToAll(id, orderOf(place));
                }
            } else if (primary == id) {
                doNext(request);
                post.sendToAll(id, orderOf(history.length));
                reply(history.length);
            } else {
                wanted |= 1 << request;
                if (primary != from) {
                    post.send(id, primary, askFor(request));
                }
            }
        }

        private void takeOrder(int from, Letter order) {
            if (changing || from != primaryOf(view) || order.view != view) {
                return;
            }
            Letter fitting = fittingOrder(order.request);
            if (order.samePoint(fitting) && history.placeOf(order.request) == 0) {
                doNext(order.request);
                reply(history.length);
            }
        }

        private void takeProof(Letter proof) {
            if (changing || proof.view != view || history.length < proof.place) {
                return;
            }
            if (history.digest(proof.place) == proof.digest) {
                history.fixed = Math.max(history.fixed, proof.place);
                post.send(id, CLIENT, new Letter(ACK, view, NONE, proof.place, proof.digest, 0, null));
            }
        }

        private void takeHate(int from, int ofView) {
            if (ofView != view) {
                return;
            }
            hated |= 1 << from;
            if (Integer.bitCount(hated) >= ONE_IS_HONEST) {
                changeView();
            }
        }

        private void changeView() {
            view++;
            hated = 0;
            changing = true;
            Letter change = new Letter(CHANGE, view, NONE, history.length, 0, 0, history.copy());
            if (primaryOf(view) == id) {
                keepChange(id, change);
            } else {
                post.send(id, primaryOf(view), change);
            }
        }

        private void keepChange(int from, Letter change) {
            if (primaryOf(change.view) == id && change.view >= view && isReplica(from)) {
                changes[from] = change;
            }
        }

        private boolean mayTurn(int from, int newView) {
            return from == primaryOf(newView) && (newView > view || newView == view && changing);
        }

        private int countChanges() {
            int count = 0;
            for (int i = 0; i < REPLICAS; i++) {
                if (changedHistory(i) != null) {
                    count++;
                }
            }
            return count;
        }

        /** What a replica's CHANGE for this view holds; null if none is kept. */
        private History changedHistory(int from) {
            Letter change = changes[from];
            return change != null && change.view == view ? change.history : null;
        }

        private History mergeChanges() {
            History merged = new History();
            History surest = mostFixed();
            if (surest != null) {
                merged.fixed = surest.fixed;
                for (int i = 0; i < surest.fixed; i++) {
                    merged.add(surest.at(i));
                }
            }
            for (int i = 0; i < MOST_REQUESTS; i++) {
                int next = agreedNext(merged);
                if (next == NONE) {
                    break;
                }
                merged.add(next);
            }
            return merged;
        }

        private History mostFixed() {
            History most = null;
            for (int i = 0; i < REPLICAS; i++) {
                History changed = changedHistory(i);
                if (changed != null && (most == null || changed.fixed > most.fixed)) {
                    most = changed;
                }
            }
            return most;
        }

        private int agreedNext(History soFar) {
            for (int i = 0; i < REPLICAS; i++) {
                int next = nextAfter(soFar, i);
                for (int j = i + 1; j < REPLICAS && next != NONE; j++) {
                    if (nextAfter(soFar, j) == next) {
                        return next;
                    }
                }
            }
            return NONE;
        }

        private int nextAfter(History soFar, int from) {
            History changed = changedHistory(from);
            return changed != null && changed.beginsWith(soFar) ? changed.at(soFar.length) : NONE;
        }

        private void turnTo(int newView, History start) {
            view = newView;
            changing = false;
            hated = 0;
            history.length = 0;
            history.fixed = start.fixed;
            for (int i = 0; i < KEYS; i++) {
                numbers[i] = 0;
            }
            for (int i = 0; i < start.length; i++) {
                doNext(start.at(i));
            }
            for (int place = 1; place <= history.length; place++) {
                reply(place);
            }
        }

        private void doNext(int number) {
            Request request = number >= 0 && number < MOST_REQUESTS ? requests[number] : null;
            if (request != null && history.length < MOST_REQUESTS) {
                results[history.length] = request.doOn(numbers);
                history.add(number);
                wanted &= ~(1 << number);
            }
        }

        private Letter orderOf(int place) {
            return new Letter(ORDER, view, history.at(place - 1), place, history.digest(place), 0, null);
        }

        private void reply(int place) {
            if (place < 1 || place > history.length) {
                return;
            }
            int request = history.at(place - 1);
            int result = results[place - 1];
            post.send(id, CLIENT, new Letter(REPLY, view, request, place, history.digest(place), result, null));
        }
    }
}
