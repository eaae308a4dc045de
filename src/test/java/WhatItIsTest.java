import java.util.Arrays;

/** The document's first section, sentence by sentence. */
public final class WhatItIsTest {
    private static final int MOST_CALLS = 512;
    private static final Check CHECK = new Check();

    public static void main(String[] args) {
        Part part = Part.section(CHECK, "What it is");
        part.test("Four replicas that do what their primary orders before they know whether the others do the same",
                WhatItIsTest::beforeTheyKnowWhetherTheOthersDoTheSame);
        part.test("one of them perhaps faulty", WhatItIsTest::oneOfThemPerhapsFaulty);
        part.test("a client that trusts four equal replies", WhatItIsTest::fourEqualReplies);
        part.test("or three and a proof that three have noted", WhatItIsTest::threeAndAProofThatThreeHaveNoted);
        part.test("and a change of the primary after which nothing that the client holds for done is lost",
                WhatItIsTest::nothingDoneIsLost);
        part.test("(as long as unlike rows have unlike digests; those of up to six requests have)",
                WhatItIsTest::rowsOfUpToSixHaveUnlikeDigests);
        String calls = "An object is used for at most 512 calls after it has been made; "
                + "what later calls answer is free";
        part.test(calls, WhatItIsTest::aRunOf512Calls);
        part.test(calls, WhatItIsTest::aRunOf512CallsWithAllMessagesSent);
        part.test(calls, WhatItIsTest::aRunOf512CallsThroughManyViews);
        part.end();
        CHECK.end();
    }

    private static void beforeTheyKnowWhetherTheOthersDoTheSame() {
        SpecOrder x = Scene.issued(-1, 1);
        x.deliver(0);
        x.deliver(2);
        CHECK.dueAll("row of 2", Scene.row(x, 2), 0);
        CHECK.due("its number 0", x.replica(2, 30), 1);
        CHECK.dueAll("row of 1", Scene.row(x, 1));
        CHECK.dueAll("row of 3", Scene.row(x, 3));
    }

    private static void oneOfThemPerhapsFaulty() {
        SpecOrder x = Scene.flooded(2, 1);
        CHECK.due("three replies are not enough", x.request(0, 0), 1);
        x.retry(0);
        x.flood(0);
        CHECK.due("a proof is", x.request(0, 0), 2);
        CHECK.dueAll("row of the faulty one", Scene.row(x, 2));
    }

    private static void fourEqualReplies() {
        SpecOrder x = Scene.issued(-1, 1);
        for (int i = 0; i < 7; i++) {
            x.deliver(i);
        }
        CHECK.due("three", x.request(0, 0), 1);
        x.deliver(7);
        CHECK.due("four", x.request(0, 0), 2);
    }

    private static void threeAndAProofThatThreeHaveNoted() {
        SpecOrder x = Scene.flooded(1, 1);
        int proof = x.messages();
        x.retry(0);
        for (int i = 0; i < 6; i++) {
            x.deliver(proof + i);
        }
        CHECK.due("all have noted, the client knows of two", x.request(0, 0), 1);
        x.deliver(proof + 6);
        CHECK.due("of three", x.request(0, 0), 2);
    }

    private static void nothingDoneIsLost() {
        // by a proof that 0, 1 and 2 have noted; 3 has never heard of it, and the change is made without 0
        SpecOrder x = Scene.issued(-1, 2);
        x.lose(1);
        x.deliver(0);
        x.deliver(2);
        x.deliver(3);
        x.lose(4);
        x.flood(0);
        int proof = x.messages();
        x.retry(0);
        x.flood(proof);
        CHECK.dueAll("done", Scene.request(x, 0), 2, 1, 1, 3, 1);
        Scene.want(x, 1);
        int first = x.messages();
        x.patience(2);
        x.patience(3);
        x.lose(first);
        x.lose(first + 3);
        x.flood(first);
        for (int i = 0; i < 4; i++) {
            CHECK.dueAll("row of " + i, Scene.row(x, i), 0);
            CHECK.due("view of " + i, x.replica(i, 0), 1);
            CHECK.due("FIXED of " + i, x.replica(i, 2), 1);
        }
        doneByFourIsNotLost();
    }

    private static void doneByFourIsNotLost() {
        SpecOrder x = Scene.flooded(-1, 2);
        x.issue(Scene.SET, 0, 0);
        x.lose(x.messages() - 1);
        Scene.want(x, 2);
        int first = x.messages();
        x.patience(1);
        x.patience(3);
        x.lose(first);
        x.lose(first + 3);
        x.flood(first);
        for (int i = 0; i < 4; i++) {
            CHECK.dueAll("row of " + i, Scene.row(x, i), 0, 1);
        }
        CHECK.dueAll("request 1", Scene.request(x, 1), 2, 2, 2, 4, 0);
    }

    private static void rowsOfUpToSixHaveUnlikeDigests() {
        // 12 + 12 * 11 + .. + 12 * 11 * 10 * 9 * 8 * 7 rows
        int[] digests = new int[773_664];
        int n = collect(digests, 0, 7, 0, 0);
        CHECK.due("rows", n, digests.length);
        Arrays.sort(digests);
        for (int i = 1; i < n; i++) {
            if (digests[i] == digests[i - 1]) {
                CHECK.fail("two rows have the digest " + digests[i]);
            }
        }
        SpecOrder x = Scene.underALiar(12);
        Scene.lies(x, 1, 0, 6, 1, 11, 5, 10);
        Scene.lies(x, 2, 5, 1, 2, 0, 4, 3);
        CHECK.due("six of each are unlike", x.replica(1, 6) != x.replica(2, 6), true);
        Scene.lies(x, 1, 2);
        Scene.lies(x, 2, 6);
        CHECK.due("digest of seven", x.replica(1, 6), 404888839);
        CHECK.due("digest of seven others", x.replica(2, 6), 404888839);
    }

    private static int collect(int[] digests, int count, int digest, int used, int length) {
        int n = count;
        for (int q = 0; q < 12 && length < 6; q++) {
            if ((used >> q & 1) == 0) {
                digests[n++] = 31 * digest + q + 1;
                n = collect(digests, n, 31 * digest + q + 1, used | 1 << q, length + 1);
            }
        }
        return n;
    }

    /** Twelve requests, each done by a proof, with every message delivered by itself. */
    private static void aRunOf512Calls() {
        SpecOrder x = new SpecOrder(3);
        int calls = 0;
        for (int q = 0; q < 12; q++) {
            CHECK.due("issue", x.issue(Scene.ADD, q % 4, Integer.MAX_VALUE), q);
            int first = 14 * q;
            // the question, three orders and three replies; then four proofs and three acks
            for (int i = 0; i < 7; i++) {
                CHECK.due("deliver", x.deliver(first + i), true);
            }
            CHECK.due("retry", x.retry(q), 2);
            for (int i = 7; i < 14; i++) {
                CHECK.due("deliver", x.deliver(first + i), true);
            }
            CHECK.due("messages", x.messages(), first + 14);
            calls += 17;
        }
        for (; calls < MOST_CALLS - 81; calls++) {
            CHECK.due("retry of what is done", x.retry(calls % 12), 0);
        }
        int max = Integer.MAX_VALUE;
        int[] results = {max, -2, max - 2};
        for (int q = 0; q < 12; q++) {
            CHECK.dueAll("request " + q, Scene.request(x, q), 2, results[q / 4], q + 1, 3, 1);
            calls += 5;
        }
        for (int i = 0; i < 3; i++) {
            CHECK.dueAll("numbers of " + i, Scene.numbers(x, i), max - 2, max - 2, max - 2, max - 2);
            CHECK.due("FIXED of " + i, x.replica(i, 2), 12);
            calls += 5;
        }
        CHECK.due("nothing is under way", x.flood(0), 0);
        CHECK.due("last message", x.message(167, 0), 4);
        CHECK.due("view", x.view(), 0);
        CHECK.due("digest", x.replica(2, 6), Scene.digest(0, 1, 2, 3, 4, 5, 6, 7, 8, 9, 10, 11));
        calls += 4;
        CHECK.dueThrow("issue, the last but one", Check.STATE, () -> x.issue(0, 0, 0));
        CHECK.due("messages, the last of all", x.messages(), 168);
        calls += 2;
        CHECK.due("calls", calls, MOST_CALLS);
    }

    private static void aRunOf512CallsWithAllMessagesSent() {
        SpecOrder x = new SpecOrder(-1);
        CHECK.due("issue", x.issue(Scene.SET, 2, 5), 0);
        for (int i = 0; i < 150; i++) {
            CHECK.due("retry", x.retry(0), 1);
        }
        CHECK.due("messages", x.messages(), 600);
        // the questions to 1, 2 and 3 alone: each wants it, and can ask no one
        for (int i = 0; i < 350; i++) {
            boolean toThePrimary = i % 4 == 1 || i == 0;
            if (toThePrimary) {
                CHECK.due("lose", x.lose(i), true);
            } else {
                CHECK.due("deliver", x.deliver(i), true);
            }
        }
        CHECK.due("WANTED of 3", x.replica(3, 4), 1);
        CHECK.due("patience", x.patience(3), true);
        CHECK.due("HATED of 3", x.replica(3, 5), 8);
        CHECK.due("the rest", x.flood(0), 250);
        CHECK.due("row of 0, which got one of them", x.replica(0, 1), 1);
        CHECK.due("row of 1", x.replica(1, 1), 0);
        CHECK.due("request 0", x.request(0, 0), 1);
        CHECK.due("nothing is left", x.flood(0), 0);
        CHECK.due("the first was lost", x.message(0, 6), 2);
        CHECK.due("messages, the last call of all", x.messages(), 600);
    }

    /** From view to view as long as messages last, then on to the last call. */
    private static void aRunOf512CallsThroughManyViews() {
        SpecOrder x = Scene.wanting(-1, 1);
        int first = x.messages();
        int view = 0;
        // wanting() has made 14 calls
        int calls = 15;
        // six HATEs, three CHANGEs or as many as are not the primary's own, and three NEWs
        for (; first + 12 * (view + 1) <= 600; view++) {
            CHECK.due("patience", x.patience(1), true);
            CHECK.due("patience", x.patience(2), true);
            CHECK.due("flood", x.flood(first + 12 * view), 12);
            CHECK.due("view", x.replica(3, 0), view + 1);
            calls += 4;
        }
        CHECK.due("views", view, 49);
        CHECK.due("messages", x.messages(), first + 12 * view);
        calls++;
        for (; calls < MOST_CALLS - 2; calls++) {
            CHECK.due("WANTED", x.replica(1 + calls % 3, 4), 1);
        }
        CHECK.due("changing", x.replica(1, 3), 0);
        CHECK.due("view, the last of all", x.replica(0, 0), 49);
        CHECK.due("calls", calls + 2, MOST_CALLS);
    }
}
