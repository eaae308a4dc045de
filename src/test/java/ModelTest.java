import java.util.ArrayList;
import java.util.List;
import java.util.Random;

/**
 * Long mixed runs, always the same ones, on SpecOrder and on Model side by side: each answer, and after each
 * call all that can be asked of the replicas, the requests and the newest messages, has to be the same. The
 * invariants that the document tells in passing are looked at, too.
 */
public final class ModelTest {
    private static final int RUNS = 3000;
    private static final int CALLS = 160;
    private static final int MOST_CALLS = 500;
    /** How often each rare thing of count() has to be seen in all runs. */
    private static final int[] LEAST = {1000, 100, 1000, 1000, 100, 10};
    private static final int KINDS_OF_CALLS = 8;

    private final Check check;
    private final Random dice;
    private final SpecOrder real;
    private final Model model;
    private final int mostRequests;
    /** How far each kind of message is favoured when one is chosen. */
    private final int[] favour = new int[8];
    /** How far each kind of call is favoured, so that some runs are full of hate and some of peace. */
    private final int[] callFavour = new int[KINDS_OF_CALLS];

    private ModelTest(Check check, int seed) {
        this.check = check;
        dice = new Random(seed);
        int faulty = dice.nextInt(6) - 1;
        real = new SpecOrder(faulty);
        model = new Model(faulty);
        mostRequests = dice.nextInt(3) == 0 ? 12 : 1 + dice.nextInt(6);
        for (int i = 0; i < 8; i++) {
            favour[i] = dice.nextInt(5);
        }
        int[] usual = {6, 12, 42, 6, 6, 12, 9, 7};
        for (int i = 0; i < KINDS_OF_CALLS; i++) {
            callFavour[i] = 1 + usual[i] * dice.nextInt(4) / 2;
        }
    }

    public static void main(String[] args) {
        Check check = new Check();
        int[] seen = new int[6];
        for (int seed = 0; seed < RUNS && check.wrong() == 0; seed++) {
            ModelTest test = new ModelTest(check, seed);
            test.run(seed);
            test.count(seen);
        }
        // runs that never come to the rare things would show nothing
        for (int i = 0; i < seen.length && check.wrong() == 0; i++) {
            if (seen[i] < LEAST[i]) {
                check.fail("the runs came to case " + i + " only " + seen[i] + " times");
            }
        }
        check.end();
    }

    private void run(int seed) {
        int calls = seed % 10 == 0 ? MOST_CALLS : CALLS;
        for (int call = 0; call < calls && check.wrong() == 0; call++) {
            check.about("seed " + seed + ", call " + call);
            step();
            compareStates(Math.max(0, model.sent.size() - 40));
        }
        check.about("seed " + seed + ", at the end");
        if (check.wrong() == 0) {
            compareStates(0);
            invariants();
        }
    }

    private void count(int[] seen) {
        for (Model.Msg m : model.sent) {
            seen[0] += m.kind == 7 && m.state == 1 ? 1 : 0;
            seen[1] += m.kind == 7 && m.place > m.fixed && m.fixed > 0 ? 1 : 0;
        }
        for (Model.Req r : model.requests) {
            seen[2] += r.done && r.provenBy == null ? 1 : 0;
            seen[3] += r.done && r.provenBy != null ? 1 : 0;
            seen[4] += r.done && r.doneView > 1 ? 1 : 0;
        }
        seen[5] += model.sent.size() == 600 ? 1 : 0;
    }

    private int chooseCall() {
        int all = 0;
        for (int f : callFavour) {
            all += f;
        }
        int roll = dice.nextInt(all);
        int call = 0;
        while (roll >= callFavour[call]) {
            roll -= callFavour[call++];
        }
        return call;
    }

    private void step() {
        int n = model.requests.size();
        int call = n == 0 ? 0 : chooseCall();
        int r = dice.nextInt(4);
        int q = n == 0 ? 0 : dice.nextInt(n);
        if (call == 0 && n < mostRequests) {
            int op = dice.nextInt(3);
            int key = dice.nextInt(2);
            int amount = dice.nextInt(5) == 0 ? Integer.MAX_VALUE - dice.nextInt(2) : dice.nextInt(9) - 3;
            check.due("issue", real.issue(op, key, amount), model.issue(op, key, amount));
        } else if (call == 1) {
            check.due("retry " + q, real.retry(q), model.retry(q));
        } else if (call == 2) {
            int m = chooseMessage();
            check.due("deliver " + m, real.deliver(m), model.deliver(m));
        } else if (call == 3) {
            int m = chooseMessage();
            check.due("lose " + m, real.lose(m), model.lose(m));
        } else if (call == 4) {
            int m = dice.nextInt(model.sent.size() + 1);
            check.due("flood " + m, real.flood(m), model.flood(m));
        } else if (call == 5) {
            check.due("patience " + r, real.patience(r), model.patience(r));
        } else if (call == 6 && r != model.faulty) {
            check.due("lie " + r + " " + q, real.lie(r, q), model.lie(r, q));
        } else if (call == 7 && r != model.faulty) {
            check.due("echo " + r + " " + q, real.echo(r, q), model.echo(r, q));
        }
    }

    private int chooseMessage() {
        List<Integer> choice = new ArrayList<>();
        for (int i = 0; i < model.sent.size(); i++) {
            Model.Msg m = model.sent.get(i);
            for (int k = 0; m.state == 0 && k < favour[m.kind]; k++) {
                choice.add(i);
            }
        }
        return choice.isEmpty() ? dice.nextInt(model.sent.size() + 3) - 1 : choice.get(dice.nextInt(choice.size()));
    }

    private void compareStates(int firstMessage) {
        check.due("messages()", real.messages(), model.sent.size());
        check.due("view()", real.view(), model.clientView);
        for (int i = 0; i < 4; i++) {
            int[] facts = new int[23];
            for (int k = 0; k < 23; k++) {
                facts[k] = real.replica(i, k < 7 ? k : k < 19 ? k + 3 : k + 11);
            }
            check.dueAll("replica " + i, facts, model.replicaFacts(i));
        }
        for (int q = 0; q < model.requests.size(); q++) {
            int[] facts = new int[5];
            for (int k = 0; k < 5; k++) {
                facts[k] = real.request(q, k);
            }
            check.dueAll("request " + q, facts, model.requestFacts(q));
        }
        for (int m = firstMessage; m < model.sent.size(); m++) {
            int[] facts = new int[7];
            for (int k = 0; k < 7; k++) {
                facts[k] = real.message(m, k);
            }
            check.dueAll("message " + m, facts, model.messageFacts(m));
        }
    }

    private void invariants() {
        for (int i = 0; i < 4; i++) {
            Model.Rep r = model.reps[i];
            check.due("different requests in a row", r.row.stream().distinct().count(), r.row.size());
            check.due("FIXED is within the row", r.fixed <= r.row.size(), true);
            check.due("fewer than two are hated", r.hated.size() < 2, true);
            check.due("nothing of the row is wanted", r.wanted.stream().noneMatch(r.row::contains), true);
        }
        if (mostRequests <= 6) {
            nothingDoneIsLost();
        }
    }

    private void nothingDoneIsLost() {
        for (int q = 0; q < model.requests.size(); q++) {
            Model.Req r = model.requests.get(q);
            for (int i = 0; i < 4 && r.done; i++) {
                Model.Rep rep = model.reps[i];
                if (i != model.faulty && rep.view > r.doneView && !rep.changing) {
                    check.due("request " + q + " is at its place in replica " + i,
                            rep.row.size() >= r.place && rep.row.get(r.place - 1) == q, true);
                }
            }
        }
    }
}
