/** Promises 13 to 20: about, seen, votes, voted, reach, ledger, agree, count. */
public final class SightTest {
    private static final Due due = new Due("SightTest");
    private static final int BAD = StreamChain.BAD;
    private static final int NONE = StreamChain.NONE;
    private static final int[] FAR = {Integer.MIN_VALUE, -1, Integer.MAX_VALUE};

    public static void main(String[] args) {
        aboutBlocks();
        seenSteps();
        seenByNoParent();
        votesEnough();
        votesAndVoted();
        refusals();
        tipOfTheGreatestEpoch();
        tipOfTheLeastNumber();
        finalNeedsThreeInARow();
        finalFromTheFirstOne();
        finalNeedsEpochsInARow();
        highestFinalOfTheLeastNumber();
        ledgerInItsOrder();
        ledgerSaysAWishOnce();
        agreeAndNot();
        counts();
        due.end();
    }

    private static void aboutBlocks() {
        StreamChain x = new StreamChain(5);
        x.wish(1, 4);
        x.epoch();
        x.settle();
        x.epoch();
        int[][] want = {{NONE, 0, 0, 0, NONE}, {0, 1, 16, 1, 1}, {1, 2, 0, 2, 2}};
        for (int block = 0; block < want.length; block++) {
            for (int what = 0; what < 5; what++) {
                due.is("about(" + block + ", " + what + ")", x.about(block, what), want[block][what]);
            }
            due.is("what 5", x.about(block, 5), BAD);
        }
        due.is("block 3", x.about(3, 0), BAD);
        for (int number : FAR) {
            due.is("block " + number, x.about(number, 0), BAD);
            due.is("what " + number, x.about(0, number), BAD);
        }
    }

    private static void seenSteps() {
        StreamChain x = Scenes.underFalseOnes();
        x.propose(0, 0, 1, 0, 0);
        x.propose(0, 1, 2, 0, 0);
        due.is("nothing", x.seen(5, 1), 0);
        x.pass(0, 1, 32);
        due.is("under way is nothing", x.seen(5, 1), 0);
        x.bring(1, 5);
        due.is("known", x.seen(5, 1), 2);
        Scenes.vote(x, 1, 5);
        due.is("notarized", x.seen(5, 1), 3);
        Scenes.vote(x, 2, 5);
        due.is("votes alone are nothing", x.seen(5, 2), 0);
        x.pass(0, 2, 32);
        x.bring(2, 5);
        due.is("notarized as the proposal comes", x.seen(5, 2), 3);
        due.is("final", x.seen(5, 1), 4);
        due.is("another node knows nothing", x.seen(4, 1), 0);
        due.is("the first one is final to it", x.seen(4, 0), 4);
    }

    private static void seenByNoParent() {
        StreamChain x = Scenes.underFalseOnes();
        x.propose(0, 0, 1, 0, 0);
        x.propose(0, 1, 2, 0, 32);
        x.propose(0, 2, 3, 0, 32);
        x.flow(5);
        Scenes.vote(x, 1, 5);
        Scenes.vote(x, 2, 5);
        Scenes.vote(x, 3, 5);
        due.is("it has 2", x.seen(5, 2), 1);
        due.is("it has 3", x.seen(5, 3), 1);
        due.is("REACH", x.reach(5, 0), 0);
        x.pass(0, 1, 32);
        x.bring(1, 5);
        due.is("1 is final", x.seen(5, 1), 4);
        due.is("2 is final", x.seen(5, 2), 4);
        due.is("3 is notarized", x.seen(5, 3), 3);
        due.is("REACH", x.reach(5, 0), 3);
        due.is("TIP", x.reach(5, 1), 3);
        due.is("highest final", x.reach(5, 2), 2);
    }

    private static void votesEnough() {
        int[] enough = {3, 4, 4, 5, 6, 6, 7};
        for (int n = 4; n <= 10; n++) {
            StreamChain x = new StreamChain(n);
            for (int node = 0; node < n; node++) {
                x.fall(node);
            }
            x.propose(1, 0, 1, 0, 1);
            x.bring(1, 0);
            for (int voter = 0; voter < n; voter++) {
                x.lie(voter, 1, 1);
                x.bringVote(voter, 1, 0);
                due.is("votes of " + n, x.votes(0, 1), voter + 1);
                due.is("seen by so many of " + n, x.seen(0, 1), voter + 1 < enough[n - 4] ? 2 : 3);
            }
        }
    }

    private static void votesAndVoted() {
        StreamChain x = new StreamChain(4);
        x.epoch();
        due.is("the leader has one", x.votes(1, 1), 1);
        due.is("another has none", x.votes(0, 1), 0);
        due.is("none of the first one", x.votes(1, 0), 0);
        due.is("the leader voted", x.voted(1, 1), 1);
        due.is("another did not", x.voted(0, 1), NONE);
        x.flow(0);
        due.is("it did", x.voted(0, 1), 1);
        due.is("it has two", x.votes(0, 1), 2);
        due.is("in no other epoch", x.voted(0, 2), NONE);
        due.is("nor in the last", x.voted(0, 40), NONE);
        x.fall(0);
        due.is("it voted while it was TRUE", x.voted(0, 1), 1);
    }

    private static void refusals() {
        StreamChain x = new StreamChain(4);
        x.epoch();
        for (int number : FAR) {
            due.is("seen: node", x.seen(number, 0), BAD);
            due.is("seen: block", x.seen(0, number), BAD);
            due.is("votes: node", x.votes(number, 0), BAD);
            due.is("votes: block", x.votes(0, number), BAD);
            due.is("voted: node", x.voted(number, 1), BAD);
            due.is("voted: epoch", x.voted(0, number), BAD);
            due.is("reach: node", x.reach(number, 0), BAD);
            due.is("reach: what", x.reach(0, number), BAD);
            due.is("ledger: node", x.ledger(number, 0), BAD);
            due.is("count: what", x.count(number), BAD);
        }
        due.is("seen(4, 0)", x.seen(4, 0), BAD);
        due.is("seen(0, 2)", x.seen(0, 2), BAD);
        due.is("votes(4, 0)", x.votes(4, 0), BAD);
        due.is("votes(0, 2)", x.votes(0, 2), BAD);
        due.is("voted(4, 1)", x.voted(4, 1), BAD);
        due.is("voted(0, 0)", x.voted(0, 0), BAD);
        due.is("voted(0, 41)", x.voted(0, 41), BAD);
        due.is("reach(4, 0)", x.reach(4, 0), BAD);
        due.is("reach(0, 3)", x.reach(0, 3), BAD);
        due.is("ledger(4, 0)", x.ledger(4, 0), BAD);
        due.is("count(7)", x.count(7), BAD);
    }

    private static void tipOfTheGreatestEpoch() {
        StreamChain x = Scenes.underFalseOnes();
        due.is("block 1 of epoch 5", Scenes.notarize(x, 0, 5, 0, 5), 1);
        due.is("block 2 of epoch 7", Scenes.notarize(x, 0, 7, 0, 5), 2);
        due.is("TIP", x.reach(5, 1), 2);
        due.is("block 3 of epoch 6", Scenes.notarize(x, 0, 6, 0, 5), 3);
        due.is("TIP stays", x.reach(5, 1), 2);
        due.is("block 4 on 1, of epoch 2", Scenes.notarize(x, 1, 2, 0, 5), 4);
        due.is("the higher one is TIP", x.reach(5, 1), 4);
        due.is("REACH", x.reach(5, 0), 2);
        due.is("REACH of another", x.reach(4, 0), 0);
    }

    private static void tipOfTheLeastNumber() {
        StreamChain x = Scenes.underFalseOnes();
        x.propose(0, 0, 5, 0, 0);
        due.is("block 2, of the same epoch", Scenes.notarize(x, 0, 5, 0, 5), 2);
        due.is("TIP", x.reach(5, 1), 2);
        x.pass(0, 1, 32);
        x.bring(1, 5);
        Scenes.vote(x, 1, 5);
        due.is("the lesser number is TIP, though it is later", x.reach(5, 1), 1);
        due.is("block 3, of the same epoch", Scenes.notarize(x, 0, 5, 0, 5), 3);
        due.is("TIP stays", x.reach(5, 1), 1);
    }

    private static void finalNeedsThreeInARow() {
        StreamChain x = Scenes.underFalseOnes();
        Scenes.notarize(x, 0, 3, 0, 5);
        Scenes.notarize(x, 1, 4, 0, 5);
        due.is("two in a row", x.reach(5, 2), 0);
        Scenes.notarize(x, 2, 5, 0, 5);
        due.is("three in a row", x.reach(5, 2), 2);
        due.is("first of three", x.seen(5, 1), 4);
        due.is("second of three", x.seen(5, 2), 4);
        due.is("third of three", x.seen(5, 3), 3);
        Scenes.notarize(x, 1, 5, 0, 5);
        due.is("no row over 1 and 4", x.reach(5, 2), 2);
        Scenes.notarize(x, 3, 6, 0, 5);
        due.is("four in a row", x.reach(5, 2), 3);
    }

    private static void finalFromTheFirstOne() {
        StreamChain x = Scenes.underFalseOnes();
        Scenes.notarize(x, 0, 1, 0, 5);
        due.is("two in a row", x.reach(5, 2), 0);
        Scenes.notarize(x, 1, 2, 0, 5);
        due.is("three in a row", x.reach(5, 2), 1);
    }

    private static void finalNeedsEpochsInARow() {
        int[][] rows = {{1, 3, 4}, {2, 3, 3}, {2, 2, 3}, {3, 2, 1}, {2, 3, 5}, {2, 4, 6}, {4, 3, 4}};
        for (int[] row : rows) {
            StreamChain x = Scenes.underFalseOnes();
            Scenes.notarize(x, 0, row[0], 0, 5);
            Scenes.notarize(x, 1, row[1], 0, 5);
            Scenes.notarize(x, 2, row[2], 0, 5);
            due.is("REACH of a row", x.reach(5, 0), 3);
            due.is("final of a row", x.reach(5, 2), 0);
            due.is("seen of a row", x.seen(5, 1), 3);
        }
    }

    private static void highestFinalOfTheLeastNumber() {
        StreamChain x = Scenes.underFalseOnes();
        x.propose(0, 0, 1, 0, 0);
        x.propose(0, 1, 2, 0, 0);
        due.is("block 3", Scenes.notarize(x, 0, 1, 0, 5), 3);
        due.is("block 4", Scenes.notarize(x, 3, 2, 0, 5), 4);
        due.is("3 is final", x.reach(5, 2), 3);
        x.pass(0, 1, 32);
        x.pass(0, 2, 32);
        x.flow(5);
        Scenes.vote(x, 1, 5);
        Scenes.vote(x, 2, 5);
        due.is("1 is as high", x.reach(5, 2), 1);
        due.is("both are final", x.seen(5, 1) + x.seen(5, 3), 8);
        due.is("block 5", Scenes.notarize(x, 0, 1, 0, 5), 5);
        due.is("block 6", Scenes.notarize(x, 5, 2, 0, 5), 6);
        due.is("5 is as high, and final", x.seen(5, 5), 4);
        due.is("1 stays", x.reach(5, 2), 1);
        due.is("block 7", Scenes.notarize(x, 4, 3, 0, 5), 7);
        due.is("4 is higher", x.reach(5, 2), 4);
        due.is("1 stays final", x.seen(5, 1), 4);
    }

    private static void ledgerInItsOrder() {
        StreamChain x = Scenes.underFalseOnes();
        Scenes.notarize(x, 0, 1, 1 << 9 | 1 << 31, 5);
        due.is("nothing is final", x.ledger(5, 0), NONE);
        Scenes.notarize(x, 0, 4, 1 << 20, 5);
        Scenes.notarize(x, 1, 2, 1 << 8 | 1, 5);
        Scenes.notarize(x, 3, 3, 1 << 7, 5);
        int[] want = {9, 31, 0, 8, NONE, NONE};
        for (int k = 0; k < want.length; k++) {
            due.is("ledger(5, " + k + ")", x.ledger(5, k), want[k]);
            due.is("of another", x.ledger(4, k), NONE);
        }
        due.is("ledger(5, -1)", x.ledger(5, -1), NONE);
        due.is("ledger(5, min)", x.ledger(5, Integer.MIN_VALUE), NONE);
        due.is("ledger(5, max)", x.ledger(5, Integer.MAX_VALUE), NONE);
    }

    private static void ledgerSaysAWishOnce() {
        StreamChain x = Scenes.underFalseOnes();
        Scenes.notarize(x, 0, 1, 6, 5);
        Scenes.notarize(x, 1, 2, 6, 5);
        Scenes.notarize(x, 2, 3, 7, 5);
        Scenes.notarize(x, 3, 4, -1, 5);
        Scenes.notarize(x, 4, 5, 0, 5);
        int[] ahead = {1, 2, 0};
        for (int k = 0; k < 32; k++) {
            due.is("ledger(5, " + k + ")", x.ledger(5, k), k < 3 ? ahead[k] : k);
        }
        due.is("ledger(5, 32)", x.ledger(5, 32), NONE);
    }

    private static void agreeAndNot() {
        StreamChain x = Scenes.underFalseOnes();
        Scenes.notarize(x, 0, 1, 0, 5);
        Scenes.notarize(x, 1, 2, 0, 5);
        Scenes.notarize(x, 2, 3, 0, 5);
        due.is("one is ahead", x.agree(), 1);
        Scenes.notarize(x, 0, 1, 0, 4);
        due.is("a fork that is not final", x.agree(), 1);
        Scenes.notarize(x, 4, 2, 0, 4);
        due.is("2 to the one, 4 to the other", x.reach(5, 2) * 10 + x.reach(4, 2), 24);
        due.is("they do not agree", x.agree(), 0);
        x.fall(4);
        due.is("FALSE ones do not count", x.agree(), 1);
        x.fall(5);
        due.is("without TRUE ones", x.agree(), 1);
    }

    private static void counts() {
        StreamChain x = new StreamChain(4);
        x.fall(3);
        x.epoch();
        x.flow(0);
        x.flow(3);
        x.lie(3, 1, 1);
        x.fall(1);
        x.epoch();
        int[] want = {4, 2, 3, 2, 0, 3, 5};
        // Block 1 and three votes: the proposal to 2; the vote of 1 to 2, of 0 to 1 and 2, of 3 to 0;
        // block 2 and its vote to three each.
        want[4] = 1 + 1 + 2 + 1 + 6;
        for (int what = 0; what < want.length; what++) {
            due.is("count(" + what + ")", x.count(what), want[what]);
        }
    }
}
