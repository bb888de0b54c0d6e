/** Promises 13 to 20: a test for each sentence that names a boundary case. */
public final class SightEdgesTest {
    private static final Due due = new Due("SightEdgesTest");
    private static final int BAD = StreamChain.BAD;
    private static final int NONE = StreamChain.NONE;
    private static final int MIN = Integer.MIN_VALUE;
    private static final int MAX = Integer.MAX_VALUE;
    /** No nodes of a net of four. */
    private static final int[] NO_NODES = {MIN, -1, 4, 5, 10, MAX};
    /** No blocks of a net that has made one. */
    private static final int[] NO_BLOCKS = {MIN, -1, 2, 3, 60, 61, 64, 65, MAX};

    public static void main(String[] args) {
        aboutTheFirst();
        aboutTheLast();
        aboutBad();
        seenNothing();
        seenHas();
        seenKnown();
        seenNotarized();
        seenFinal();
        seenBad();
        votesNoneToAll();
        votesBad();
        votedAsATrueOne();
        votedEpochs();
        votedNone();
        votedBad();
        reachAtFirst();
        reachOfSeveral();
        reachBad();
        ledgerEmpty();
        ledgerFull();
        ledgerFromTheFirstOn();
        ledgerNoBlockAhead();
        ledgerByNumbers();
        ledgerOfTheHighestFinal();
        ledgerNone();
        ledgerBad();
        agreeOfTheSame();
        agreeInTheChainOfTheOther();
        agreeNot();
        agreeOfTrueOnes();
        countNodes();
        countEpoch();
        countBlocks();
        countFalse();
        countUnderWay();
        countVotes();
        countCame();
        countBad();
        due.end();
    }

    private static void aboutTheFirst() {
        due.sentence("Promise 13", "(NONE of the FIRST one)");
        StreamChain x = new StreamChain(4);
        int[] want = {NONE, 0, 0, 0, NONE};
        for (int what = 0; what < 5; what++) {
            due.is("about(0, " + what + ")", x.about(0, what), want[what]);
        }
        x.epoch();
        x.settle();
        x.epoch();
        for (int what = 0; what < 5; what++) {
            due.is("later, about(0, " + what + ")", x.about(0, what), want[what]);
        }
    }

    private static void aboutTheLast() {
        due.sentence("Promise 13", "1 its EPOCH, 2 its LOAD, 3 its HEIGHT, 4 its maker");
        StreamChain x = Scenes.withFalse(10, 0);
        for (int block = 1; block <= 60; block++) {
            x.propose(0, block - 1, 40, -block, 0);
        }
        int[] want = {59, 40, -60, 60, 0};
        for (int what = 0; what < 5; what++) {
            due.is("about(60, " + what + ")", x.about(60, what), want[what]);
        }
        StreamChain y = new StreamChain(10);
        y.wish(9, 31);
        y.lead(1, 9);
        y.epoch();
        int[] of9 = {0, 1, MIN, 1, 9};
        for (int what = 0; what < 5; what++) {
            due.is("about(1, " + what + ")", y.about(1, what), of9[what]);
        }
    }

    private static void aboutBad() {
        due.sentence("Promise 13", "BAD");
        StreamChain x = new StreamChain(4);
        due.is("ahead of all blocks", x.about(1, 0), BAD);
        x.epoch();
        for (int block : NO_BLOCKS) {
            due.is("about(" + block + ", 0)", x.about(block, 0), BAD);
        }
        int[] noWhats = {MIN, -1, 5, 6, MAX};
        for (int what : noWhats) {
            due.is("about(0, " + what + ")", x.about(0, what), BAD);
            due.is("about(1, " + what + ")", x.about(1, what), BAD);
        }
        due.is("about(61, 5)", x.about(61, 5), BAD);
    }

    private static void seenNothing() {
        due.sentence("Promise 14", "0 nothing");
        StreamChain x = Scenes.full();
        due.is("sent to none", x.seen(3, 60), 0);
        x.pass(0, 60, 8);
        due.is("just under way", x.seen(3, 60), 0);
        x.lie(0, 60, 8);
        x.bringVote(0, 60, 3);
        due.is("a vote alone", x.seen(3, 60), 0);
    }

    private static void seenHas() {
        due.sentence("Promise 14", "1 the NODE HAS its PROPOSAL");
        StreamChain x = Scenes.full();
        Scenes.show(x, 60, 3);
        due.is("without its parent", x.seen(3, 60), 1);
        Scenes.show(x, 1, 3);
        due.is("the parent is not there yet", x.seen(3, 60), 1);
        due.is("nor is that", x.seen(3, 59), 0);
    }

    private static void seenKnown() {
        due.sentence("Promise 14", "2 KNOWN");
        StreamChain x = Scenes.full();
        due.is("its maker knows the last", x.seen(0, 60), 2);
        Scenes.show(x, 1, 3);
        due.is("the next to the first", x.seen(3, 1), 2);
        due.is("to another it is nothing", x.seen(2, 1), 0);
    }

    private static void seenNotarized() {
        due.sentence("Promise 14", "3 NOTARIZED");
        StreamChain x = Scenes.underFalseOnes();
        Scenes.notarize(x, 0, 40, 0, 5);
        due.is("by four votes of six", x.seen(5, 1), 3);
        due.is("another has nothing", x.seen(4, 1), 0);
        due.is("its maker has one vote", x.votes(0, 1), 1);
        due.is("and so knows it alone", x.seen(0, 1), 2);
    }

    private static void seenFinal() {
        due.sentence("Promise 14", "4 FINAL: the greatest of these that is so");
        StreamChain x = Scenes.underFalseOnes();
        Scenes.notarize(x, 0, 1, 0, 5);
        Scenes.notarize(x, 1, 2, 0, 5);
        due.is("the first one, always", x.seen(4, 0), 4);
        due.is("the second of three", x.seen(5, 1), 4);
        due.is("the third of three", x.seen(5, 2), 3);
        due.is("to another it is nothing", x.seen(4, 1), 0);
    }

    private static void seenBad() {
        due.sentence("Promise 14", "BAD");
        StreamChain x = new StreamChain(4);
        due.is("ahead of all blocks", x.seen(0, 1), BAD);
        x.epoch();
        for (int node : NO_NODES) {
            due.is("seen(" + node + ", 0)", x.seen(node, 0), BAD);
        }
        for (int block : NO_BLOCKS) {
            due.is("seen(0, " + block + ")", x.seen(0, block), BAD);
        }
    }

    private static void votesNoneToAll() {
        due.sentence("Promise 15", "How many VOTES for a BLOCK a NODE HAS.");
        StreamChain x = new StreamChain(10);
        due.is("for the first one", x.votes(0, 0), 0);
        x.epoch();
        due.is("none", x.votes(0, 1), 0);
        due.is("its own", x.votes(1, 1), 1);
        x.settle();
        for (int node = 0; node < 10; node++) {
            due.is("of all", x.votes(node, 1), 10);
        }
        due.is("still none for the first one", x.votes(0, 0), 0);
        x.fall(9);
        due.is("a FALSE one's stays", x.votes(0, 1), 10);
    }

    private static void votesBad() {
        due.sentence("Promise 15", "BAD");
        StreamChain x = new StreamChain(4);
        due.is("ahead of all blocks", x.votes(0, 1), BAD);
        x.epoch();
        for (int node : NO_NODES) {
            due.is("votes(" + node + ", 1)", x.votes(node, 1), BAD);
        }
        for (int block : NO_BLOCKS) {
            due.is("votes(1, " + block + ")", x.votes(1, block), BAD);
        }
    }

    private static void votedAsATrueOne() {
        due.sentence("Promise 16", "For which BLOCK a NODE voted (as a TRUE one)");
        StreamChain x = new StreamChain(4);
        x.epoch();
        x.fall(1);
        due.is("as a TRUE one that fell later", x.voted(1, 1), 1);
        x.propose(1, 0, 1, 0, 0);
        x.lie(1, 2, 0);
        due.is("a lie changes nothing there", x.voted(1, 1), 1);
        x.fall(0);
        x.lie(0, 2, 0);
        due.is("a lie alone is none", x.voted(0, 1), NONE);
    }

    private static void votedEpochs() {
        due.sentence("Promise 16", "in an EPOCH (1 .. 40)");
        StreamChain x = new StreamChain(4);
        due.is("ahead of the first", x.voted(1, 1), NONE);
        due.is("ahead of the last", x.voted(0, 40), NONE);
        Scenes.begin(x, 40);
        due.is("in the first", x.voted(1, 1), 1);
        due.is("in the last", x.voted(0, 40), 40);
        x.settle();
        due.is("the others in the last", x.voted(3, 40), 40);
    }

    private static void votedNone() {
        due.sentence("Promise 16", "NONE");
        StreamChain x = new StreamChain(4);
        Scenes.begin(x, 40);
        for (int epoch = 1; epoch <= 40; epoch++) {
            due.is("voted(1, " + epoch + ")", x.voted(1, epoch), epoch % 4 == 1 ? epoch : NONE);
        }
    }

    private static void votedBad() {
        due.sentence("Promise 16", "BAD");
        StreamChain x = new StreamChain(4);
        x.epoch();
        for (int node : NO_NODES) {
            due.is("voted(" + node + ", 1)", x.voted(node, 1), BAD);
        }
        int[] noEpochs = {MIN, -1, 0, 41, 42, MAX};
        for (int epoch : noEpochs) {
            due.is("voted(1, " + epoch + ")", x.voted(1, epoch), BAD);
        }
    }

    private static void reachAtFirst() {
        due.sentence("Promise 17", "REACH (what = 0), TIP (1), the highest FINAL BLOCK (2");
        StreamChain x = new StreamChain(4);
        for (int what = 0; what < 3; what++) {
            due.is("at first, reach(0, " + what + ")", x.reach(0, what), 0);
        }
        x.lead(1, 0);
        x.lead(2, 0);
        x.lead(3, 0);
        for (int epoch = 1; epoch <= 3; epoch++) {
            x.epoch();
            x.settle();
            due.is("REACH", x.reach(0, 0), epoch);
            due.is("TIP", x.reach(0, 1), epoch);
            due.is("highest final", x.reach(0, 2), epoch - 1);
        }
    }

    private static void reachOfSeveral() {
        due.sentence("Promise 17", "of several the least number");
        StreamChain x = Scenes.underFalseOnes();
        x.propose(0, 0, 1, 0, 0);
        x.propose(0, 1, 2, 0, 0);
        Scenes.notarize(x, 0, 1, 0, 5);
        Scenes.notarize(x, 3, 2, 0, 5);
        due.is("the only one", x.reach(5, 2), 3);
        Scenes.show(x, 1, 5);
        Scenes.vote(x, 1, 5);
        Scenes.show(x, 2, 5);
        Scenes.vote(x, 2, 5);
        due.is("of two as high the least", x.reach(5, 2), 1);
        Scenes.notarize(x, 0, 1, 0, 5);
        Scenes.notarize(x, 5, 2, 0, 5);
        due.is("of three as high the least", x.reach(5, 2), 1);
        Scenes.notarize(x, 4, 3, 0, 5);
        due.is("a higher one", x.reach(5, 2), 4);
    }

    private static void reachBad() {
        due.sentence("Promise 17", "BAD");
        StreamChain x = new StreamChain(4);
        for (int node : NO_NODES) {
            due.is("reach(" + node + ", 0)", x.reach(node, 0), BAD);
        }
        int[] noWhats = {MIN, -1, 3, 4, MAX};
        for (int what : noWhats) {
            due.is("reach(0, " + what + ")", x.reach(0, what), BAD);
        }
    }

    private static void ledgerEmpty() {
        due.sentence("Promise 18, an empty one", "The k-th WISH of the ledger of a NODE");
        StreamChain x = Scenes.underFalseOnes();
        due.is("at first", x.ledger(5, 0), NONE);
        Scenes.notarize(x, 0, 1, 0, 5);
        Scenes.notarize(x, 1, 2, -1, 5);
        due.is("a final block without a load", x.reach(5, 2), 1);
        due.is("and what is on it is not final", x.ledger(5, 0), NONE);
    }

    private static void ledgerFull() {
        due.sentence("Promise 18, a full one", "The k-th WISH of the ledger of a NODE");
        StreamChain x = Scenes.underFalseOnes();
        Scenes.notarize(x, 0, 1, -1, 5);
        Scenes.notarize(x, 1, 2, -1, 5);
        Scenes.notarize(x, 2, 3, -1, 5);
        for (int k = 0; k < 32; k++) {
            due.is("ledger(5, " + k + ")", x.ledger(5, k), k);
        }
        due.is("ledger(5, 32)", x.ledger(5, 32), NONE);
    }

    private static void ledgerFromTheFirstOn() {
        due.sentence("Promise 18", "BLOCKS of the CHAIN of its highest FINAL one from the FIRST one on");
        StreamChain x = Scenes.underFalseOnes();
        Scenes.notarize(x, 0, 1, 1 << 31, 5);
        Scenes.notarize(x, 0, 9, 1 << 20, 5);
        Scenes.notarize(x, 1, 2, 1, 5);
        Scenes.notarize(x, 3, 3, 1 << 7, 5);
        int[] want = {31, 0, NONE, NONE};
        for (int k = 0; k < want.length; k++) {
            due.is("ledger(5, " + k + ")", x.ledger(5, k), want[k]);
        }
    }

    private static void ledgerNoBlockAhead() {
        due.sentence("Promise 18", "of each the WISHES of its LOAD that no BLOCK ahead has");
        StreamChain x = Scenes.underFalseOnes();
        int[] loads = {6, 1 << 9 | 4, 7, 1 << 9 | 6, 0};
        for (int i = 0; i < loads.length; i++) {
            Scenes.notarize(x, i, i + 1, loads[i], 5);
        }
        int[] want = {1, 2, 9, 0, NONE};
        for (int k = 0; k < want.length; k++) {
            due.is("ledger(5, " + k + ")", x.ledger(5, k), want[k]);
        }
    }

    private static void ledgerByNumbers() {
        due.sentence("Promise 18", "by numbers");
        StreamChain x = new StreamChain(4);
        int[] wishes = {31, 0, 17, 30, 1};
        for (int wish : wishes) {
            x.wish(1, wish);
        }
        for (int epoch = 1; epoch <= 2; epoch++) {
            x.epoch();
            x.settle();
        }
        int[] want = {0, 1, 17, 30, 31, NONE};
        for (int k = 0; k < want.length; k++) {
            due.is("ledger(0, " + k + ")", x.ledger(0, k), want[k]);
        }
    }

    private static void ledgerOfTheHighestFinal() {
        due.sentence("Promise 18", "BLOCKS of the CHAIN of its highest FINAL one");
        StreamChain x = Scenes.underFalseOnes();
        x.propose(0, 0, 1, 2, 0);
        x.propose(0, 1, 2, 0, 0);
        Scenes.notarize(x, 0, 1, 4, 5);
        Scenes.notarize(x, 3, 2, 8, 5);
        due.is("the only one", x.ledger(5, 0), 2);
        Scenes.show(x, 1, 5);
        Scenes.vote(x, 1, 5);
        Scenes.show(x, 2, 5);
        Scenes.vote(x, 2, 5);
        due.is("of two the least number", x.ledger(5, 0), 1);
        due.is("that chain alone", x.ledger(5, 1), NONE);
        Scenes.notarize(x, 4, 3, 0, 5);
        due.is("the highest", x.ledger(5, 0), 2);
        due.is("and its second block", x.ledger(5, 1), 3);
        due.is("of another node", x.ledger(4, 0), NONE);
    }

    private static void ledgerNone() {
        due.sentence("Promise 18", "NONE. BAD: the NODE.");
        StreamChain x = Scenes.underFalseOnes();
        Scenes.notarize(x, 0, 1, 3, 5);
        Scenes.notarize(x, 1, 2, 0, 5);
        due.is("the last", x.ledger(5, 1), 1);
        int[] noWishes = {MIN, MIN + 1, -32, -1, 2, 31, 32, 33, 64, MAX - 1, MAX};
        for (int k : noWishes) {
            due.is("ledger(5, " + k + ")", x.ledger(5, k), NONE);
        }
    }

    private static void ledgerBad() {
        due.sentence("Promise 18", "BAD: the NODE.");
        StreamChain x = new StreamChain(4);
        for (int node : NO_NODES) {
            due.is("ledger(" + node + ", 0)", x.ledger(node, 0), BAD);
            due.is("ledger(" + node + ", -1)", x.ledger(node, -1), BAD);
        }
    }

    private static void agreeOfTheSame() {
        due.sentence("Promise 19",
            "1, if of the highest FINAL BLOCKS of any two TRUE NODES the one is in the CHAIN of the other");
        StreamChain x = new StreamChain(4);
        due.is("all have the first one", x.agree(), 1);
        for (int epoch = 1; epoch <= 3; epoch++) {
            x.epoch();
            x.settle();
        }
        due.is("highest final of all", x.reach(0, 2) + x.reach(1, 2) + x.reach(2, 2) + x.reach(3, 2), 8);
        due.is("all have the same", x.agree(), 1);
    }

    private static void agreeInTheChainOfTheOther() {
        due.sentence("Promise 19", "the one is in the CHAIN of the other");
        for (int ahead = 4; ahead <= 5; ahead++) {
            StreamChain x = Scenes.underFalseOnes();
            for (int block = 1; block <= 4; block++) {
                Scenes.notarize(x, block - 1, block, 0, ahead);
            }
            due.is("highest final of the one", x.reach(ahead, 2), 3);
            due.is("the other has the first one", x.agree(), 1);
            int behind = 9 - ahead;
            for (int block = 1; block <= 2; block++) {
                Scenes.show(x, block, behind);
                Scenes.vote(x, block, behind);
            }
            due.is("highest final of the other", x.reach(behind, 2), 1);
            due.is("which is in the chain", x.agree(), 1);
        }
    }

    private static void agreeNot() {
        due.sentence("Promise 19", "else 0");
        for (int longer = 4; longer <= 5; longer++) {
            StreamChain x = Scenes.underFalseOnes();
            for (int block = 1; block <= 4; block++) {
                Scenes.notarize(x, block - 1, block, 0, longer);
            }
            Scenes.notarize(x, 0, 1, 0, 9 - longer);
            due.is("another block beside it is not final", x.agree(), 1);
            Scenes.notarize(x, 5, 2, 0, 9 - longer);
            due.is("now it is", x.reach(9 - longer, 2), 5);
            due.is("so they do not agree", x.agree(), 0);
        }
    }

    private static void agreeOfTrueOnes() {
        due.sentence("Promise 19", "any two TRUE NODES");
        StreamChain x = Scenes.underFalseOnes();
        for (int node = 3; node <= 5; node++) {
            int first = Scenes.notarize(x, 0, 1, 0, node);
            Scenes.notarize(x, first, 2, 0, node);
        }
        due.is("4 and 5 do not", x.agree(), 0);
        x.fall(5);
        due.is("3 and 5 are FALSE, and 4 is alone", x.agree(), 1);
        x.fall(4);
        due.is("there is no TRUE one", x.agree(), 1);
    }

    private static void countNodes() {
        due.sentence("Promise 20", "0 NODES");
        for (int n = 4; n <= 10; n++) {
            StreamChain x = Scenes.withFalse(n, 0, 1);
            due.is("nodes", x.count(0), n);
        }
    }

    private static void countEpoch() {
        due.sentence("Promise 20", "1 the present EPOCH");
        StreamChain x = new StreamChain(4);
        due.is("none", x.count(1), 0);
        Scenes.begin(x, 40);
        due.is("the last", x.count(1), 40);
        x.epoch();
        due.is("no one more", x.count(1), 40);
    }

    private static void countBlocks() {
        due.sentence("Promise 20", "2 BLOCKS with the FIRST one");
        StreamChain x = Scenes.withFalse(4, 0);
        due.is("the first one alone", x.count(2), 1);
        for (int made = 1; made <= 61; made++) {
            x.propose(0, 0, 4, 0, 0);
            due.is("blocks", x.count(2), Math.min(61, made + 1));
        }
    }

    private static void countFalse() {
        due.sentence("Promise 20", "3 FALSE NODES");
        StreamChain x = new StreamChain(10);
        due.is("none", x.count(3), 0);
        for (int node = 9; node >= 0; node--) {
            x.fall(node);
            x.fall(node);
            due.is("FALSE nodes", x.count(3), 10 - node);
        }
    }

    private static void countUnderWay() {
        due.sentence("Promise 20", "4 LETTERS UNDER WAY (of each to each NODE)");
        StreamChain x = new StreamChain(10);
        due.is("none", x.count(4), 0);
        x.epoch();
        due.is("two letters to nine", x.count(4), 18);
        x.bring(1, 0);
        due.is("one to eight, two to nine", x.count(4), 26);
        x.settle();
        due.is("none", x.count(4), 0);
        StreamChain y = Scenes.full();
        for (int block = 1; block <= 60; block++) {
            y.pass(0, block, 15);
            y.lie(0, block, 15);
        }
        due.is("120 letters to three", y.count(4), 360);
    }

    private static void countVotes() {
        due.sentence("Promise 20", "5 VOTES given by TRUE NODES");
        StreamChain x = Scenes.withFalse(4, 0);
        due.is("none", x.count(5), 0);
        x.epoch();
        due.is("one", x.count(5), 1);
        x.lie(0, 1, 15);
        due.is("a lie is none", x.count(5), 1);
        x.settle();
        due.is("three", x.count(5), 3);
        x.fall(1);
        due.is("it was TRUE as it voted", x.count(5), 3);
        x.lie(1, 1, 15);
        due.is("and did not vote anew", x.count(5), 3);
        StreamChain y = new StreamChain(10);
        for (int epoch = 1; epoch <= 40; epoch++) {
            y.epoch();
            y.settle();
        }
        due.is("all in all epochs", y.count(5), 400);
    }

    private static void countCame() {
        due.sentence("Promise 20", "6 LETTERS that came");
        StreamChain x = new StreamChain(4);
        due.is("none", x.count(6), 0);
        x.epoch();
        due.is("what one has of itself did not come", x.count(6), 0);
        x.bring(1, 0);
        due.is("a proposal", x.count(6), 1);
        x.bring(1, 0);
        due.is("not what is refused", x.count(6), 1);
        x.bringVote(1, 1, 0);
        due.is("a vote", x.count(6), 2);
        x.flow(2);
        due.is("three more by flow", x.count(6), 5);
        x.settle();
        due.is("all", x.count(6), 15);
        StreamChain y = new StreamChain(10);
        for (int epoch = 1; epoch <= 40; epoch++) {
            y.epoch();
            y.settle();
        }
        due.is("eleven to nine in each epoch", y.count(6), 3960);
    }

    private static void countBad() {
        due.sentence("Promise 20", "BAD");
        StreamChain x = new StreamChain(4);
        int[] noWhats = {MIN, -1, 7, 8, MAX};
        for (int what : noWhats) {
            due.is("count(" + what + ")", x.count(what), BAD);
        }
        due.is("count(6)", x.count(6), 0);
    }
}
