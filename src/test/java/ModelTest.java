import java.util.ArrayList;
import java.util.Collections;
import java.util.List;
import java.util.Random;

/**
 * Long mixed runs, always the same ones, on SpecOrder and on Model: each answer has to be the same, and every few
 * calls all that can be asked of the replicas, the requests and the newest messages. That is asked of a new object
 * that has made the same calls, since an object is good for 512 calls, and asking is one.
 */
public final class ModelTest {
    private static final int RUNS = 3000;
    private static final int CALLS = 160;
    private static final int MOST_CALLS = 512;
    private static final int STRIDE = 10;
    /** How often each rare thing of count() has to be seen in all runs. */
    private static final int[] LEAST = {1000, 100, 1000, 1000, 100, 10};
    private static final int KINDS_OF_CALLS = 8;

    private final Check check;
    private final Random dice;
    private final Model model;
    private final int mostRequests;
    private final List<Call> calls = new ArrayList<>();
    /** How far each kind of message is favoured when one is chosen. */
    private final int[] favour = new int[8];
    /** How far each kind of call is favoured, so that some runs are full of hate and some of peace. */
    private final int[] callFavour = new int[KINDS_OF_CALLS];

    /** A call with its arguments, and what the model answered. */
    private record Call(int kind, int a, int b, int c, int answer) {
    }

    /** A question about the state, and what the model answered. */
    private record Fact(String about, int number, int what, int answer) {
    }

    private ModelTest(Check check, int seed) {
        this.check = check;
        dice = new Random(seed);
        model = new Model(dice.nextInt(6) - 1);
        mostRequests = dice.nextInt(3) == 0 ? 12 : 1 + dice.nextInt(6);
        for (int i = 0; i < 8; i++) {
            favour[i] = dice.nextInt(5);
        }
        int[] usual = {6, 12, 42, 6, 6, 12, 9, 7};
        for (int i = 0; i < KINDS_OF_CALLS; i++) {
            callFavour[i] = 1 + usual[i] * dice.nextInt(4) / 2;
        }
    }

    public static void main(String[] args) {
        Check check = new Check();
        int[] seen = new int[6];
        for (int seed = 0; seed < RUNS && check.wrong() == 0; seed++) {
            ModelTest test = new ModelTest(check, seed);
            test.run(seed);
            test.count(seen);
        }
        // runs that never come to the rare things would show nothing
        for (int i = 0; i < seen.length && check.wrong() == 0; i++) {
            if (seen[i] < LEAST[i]) {
                check.fail("the runs came to case " + i + " only " + seen[i] + " times");
            }
        }
        check.end();
    }

    private void run(int seed) {
        int length = seed % 10 == 0 ? MOST_CALLS : CALLS;
        for (int n = 1; n <= length && check.wrong() == 0; n++) {
            check.about("seed " + seed + ", after " + n + " calls");
            calls.add(next());
            if (n % STRIDE == 0 || n == length) {
                replay();
            }
        }
        if (check.wrong() == 0) {
            invariants();
        }
    }

    private void count(int[] seen) {
        for (Model.Msg m : model.sent) {
            seen[0] += m.kind == 7 && m.state == 1 ? 1 : 0;
            seen[1] += m.kind == 7 && m.place > m.fixed && m.fixed > 0 ? 1 : 0;
        }
        for (Model.Req r : model.requests) {
            seen[2] += r.done && r.provenBy == null ? 1 : 0;
            seen[3] += r.done && r.provenBy != null ? 1 : 0;
            seen[4] += r.done && r.doneView > 1 ? 1 : 0;
        }
        seen[5] += model.sent.size() == 600 ? 1 : 0;
    }

    private int chooseKind() {
        int all = 0;
        for (int f : callFavour) {
            all += f;
        }
        int roll = dice.nextInt(all);
        int kind = 0;
        while (roll >= callFavour[kind]) {
            roll -= callFavour[kind++];
        }
        return kind;
    }

    /** A call that makes sense at least in part, made on the model. */
    private Call next() {
        int n = model.requests.size();
        int kind = n == 0 ? 0 : chooseKind();
        int a = dice.nextInt(4);
        int b = n == 0 ? 0 : dice.nextInt(n);
        int c = 0;
        if (kind == 0 && n == mostRequests || kind >= 6 && a == model.faulty) {
            kind = 2;
        }
        if (kind == 0) {
            a = dice.nextInt(3);
            b = dice.nextInt(2);
            c = dice.nextInt(5) == 0 ? Integer.MAX_VALUE - dice.nextInt(2) : dice.nextInt(9) - 3;
        } else if (kind == 1) {
            a = b;
        } else if (kind == 2 || kind == 3) {
            a = chooseMessage();
        } else if (kind == 4) {
            a = dice.nextInt(model.sent.size() + 1);
        }
        return new Call(kind, a, b, c, onModel(kind, a, b, c));
    }

    private int onModel(int kind, int a, int b, int c) {
        return switch (kind) {
            case 0 -> model.issue(a, b, c);
            case 1 -> model.retry(a);
            case 2 -> bit(model.deliver(a));
            case 3 -> bit(model.lose(a));
            case 4 -> model.flood(a);
            case 5 -> bit(model.patience(a));
            case 6 -> bit(model.lie(a, b));
            default -> bit(model.echo(a, b));
        };
    }

    private static int onReal(SpecOrder real, Call call) {
        return switch (call.kind) {
            case 0 -> real.issue(call.a, call.b, call.c);
            case 1 -> real.retry(call.a);
            case 2 -> bit(real.deliver(call.a));
            case 3 -> bit(real.lose(call.a));
            case 4 -> real.flood(call.a);
            case 5 -> bit(real.patience(call.a));
            case 6 -> bit(real.lie(call.a, call.b));
            default -> bit(real.echo(call.a, call.b));
        };
    }

    private static int bit(boolean answer) {
        return answer ? 1 : 0;
    }

    private int chooseMessage() {
        List<Integer> choice = new ArrayList<>();
        for (int i = 0; i < model.sent.size(); i++) {
            Model.Msg m = model.sent.get(i);
            for (int k = 0; m.state == 0 && k < favour[m.kind]; k++) {
                choice.add(i);
            }
        }
        return choice.isEmpty() ? dice.nextInt(model.sent.size() + 3) - 1 : choice.get(dice.nextInt(choice.size()));
    }

    /** A new object makes all calls so far, and is asked then as much as its 512 calls leave room for. */
    private void replay() {
        SpecOrder real = new SpecOrder(model.faulty);
        for (Call call : calls) {
            compare(call, onReal(real, call), call.answer);
        }
        List<Fact> facts = facts();
        for (int i = 0; i < facts.size() && i < MOST_CALLS - calls.size() && check.wrong() == 0; i++) {
            Fact fact = facts.get(i);
            compare(fact, answer(real, fact), fact.answer);
        }
    }

    /** The text is made only when it is wanted, since there are millions of calls. */
    private void compare(Record call, int got, int want) {
        if (got != want) {
            check.due(call.toString(), got, want);
        }
    }

    private List<Fact> facts() {
        List<Fact> facts = new ArrayList<>();
        facts.add(new Fact("messages", 0, 0, model.sent.size()));
        facts.add(new Fact("view", 0, 0, model.clientView));
        for (int i = 0; i < 4; i++) {
            int[] of = model.replicaFacts(i);
            for (int k = 0; k < of.length; k++) {
                facts.add(new Fact("replica", i, k < 7 ? k : k < 19 ? k + 3 : k + 11, of[k]));
            }
        }
        for (int i = 0; i < model.requests.size(); i++) {
            addAll(facts, "request", i, model.requestFacts(i));
        }
        // where there is room for some only, it is not always for the same ones
        Collections.shuffle(facts, dice);
        for (int i = model.sent.size() - 1; i >= 0 && facts.size() < MOST_CALLS; i--) {
            addAll(facts, "message", i, model.messageFacts(i));
        }
        return facts;
    }

    private static void addAll(List<Fact> facts, String about, int number, int[] answers) {
        for (int what = 0; what < answers.length; what++) {
            facts.add(new Fact(about, number, what, answers[what]));
        }
    }

    private static int answer(SpecOrder real, Fact fact) {
        return switch (fact.about) {
            case "messages" -> real.messages();
            case "view" -> real.view();
            case "replica" -> real.replica(fact.number, fact.what);
            case "request" -> real.request(fact.number, fact.what);
            default -> real.message(fact.number, fact.what);
        };
    }

    private void invariants() {
        for (int i = 0; i < 4; i++) {
            Model.Rep r = model.reps[i];
            check.due("different requests in a row", r.row.stream().distinct().count(), r.row.size());
            check.due("FIXED is within the row", r.fixed <= r.row.size(), true);
            check.due("fewer than two are hated", r.hated.size() < 2, true);
            check.due("nothing of the row is wanted", r.wanted.stream().noneMatch(r.row::contains), true);
        }
        if (mostRequests <= 6) {
            nothingDoneIsLost();
        }
    }

    private void nothingDoneIsLost() {
        for (int q = 0; q < model.requests.size(); q++) {
            Model.Req r = model.requests.get(q);
            for (int i = 0; i < 4 && r.done; i++) {
                Model.Rep rep = model.reps[i];
                if (i != model.faulty && rep.view > r.doneView && !rep.changing) {
                    check.due("request " + q + " is at its place in replica " + i,
                            rep.row.size() >= r.place && rep.row.get(r.place - 1) == q, true);
                }
            }
        }
    }
}
