/** The sentences of "Terms" that name a boundary case: a test for each, from nodes to final blocks. */
public final class TermsEdgesTest {
    private static final Due due = new Due("TermsEdgesTest");
    private static final int BAD = StreamChain.BAD;
    private static final int STATE = StreamChain.STATE;
    private static final int NONE = StreamChain.NONE;

    public static void main(String[] args) {
        numbersFromZero();
        numbersOfNodes();
        allTrueAtFirst();
        presentEpoch();
        leadersWrapAround();
        firstBlock();
        loads();
        sixtyProposed();
        sixtyBegunAndProposed();
        heightsOfOneChain();
        heightsSideBySide();
        chainDownToTheFirst();
        hasOrUnderWayOrNeither();
        underWayToAllThatDoNotHaveIt();
        underWayAlsoToFalseOnes();
        underWayFromThenOn();
        comesWhenItIsLet();
        firstIsKnown();
        knownOnAKnownParent();
        votesOfSoManyNodes();
        notarizedOnlyIfKnown();
        notarizedOnANotarizedParent();
        greatestHeight();
        tipOfTheGreatestEpoch();
        tipOfTheLeastNumber();
        firstIsFinal();
        threeBlocksNotarized();
        eachTheParentOfTheNext();
        epochsEachOneMore();
        secondOneOrInItsChain();
        firstOneMayBeTheFirstOfThree();
        due.end();
    }

    private static void numbersFromZero() {
        due.sentence("Terms", "Numbers go from 0 on.");
        StreamChain x = new StreamChain(4);
        due.is("wish(0, 0)", x.wish(0, 0), 1);
        due.is("lead(1, 0)", x.lead(1, 0), 1);
        due.is("epoch()", x.epoch(), 1);
        due.is("wish 0 in the load of node 0's block", x.about(1, 2), 1);
        x.settle();
        x.epoch();
        x.settle();
        due.is("ledger(0, 0)", x.ledger(0, 0), 0);
        due.is("ledger(0, -1)", x.ledger(0, -1), NONE);
        due.is("seen(0, 0)", x.seen(0, 0), 4);
        due.is("seen(-1, 0)", x.seen(-1, 0), BAD);
        due.is("seen(0, -1)", x.seen(0, -1), BAD);
        due.is("wish(0, -1)", x.wish(0, -1), BAD);
        due.is("count(0)", x.count(0), 4);
        due.is("count(-1)", x.count(-1), BAD);
    }

    private static void numbersOfNodes() {
        due.sentence("Terms", "NODES 0 .. n - 1, n 4 to 10");
        for (int n = 4; n <= 10; n++) {
            StreamChain x = new StreamChain(n);
            int last = n - 1;
            due.is("wish(last, 0)", x.wish(last, 0), 1);
            due.is("wish(n, 0)", x.wish(n, 0), BAD);
            due.is("lead(1, n)", x.lead(1, n), BAD);
            due.is("lead(1, last)", x.lead(1, last), 1);
            due.is("epoch()", x.epoch(), 1);
            due.is("maker", x.about(1, 4), last);
            due.is("fall(n)", x.fall(n), BAD);
            due.is("fall(last)", x.fall(last), 1);
            due.is("propose to node n", x.propose(last, 0, 1, 0, 1 << n), BAD);
            due.is("propose to the last", x.propose(last, 0, 1, 0, 1 << last), 2);
            due.is("propose to all", x.propose(last, 0, 1, 0, (1 << n) - 1), 3);
            due.is("propose of node n", x.propose(n, 0, 1, 0, 0), BAD);
            due.is("lie to node n", x.lie(last, 2, 1 << n), BAD);
            due.is("lie to all", x.lie(last, 2, (1 << n) - 1), last);
            due.is("lie of node n", x.lie(n, 2, 0), BAD);
            due.is("pass to node n", x.pass(last, 2, 1 << n), BAD);
            due.is("pass to all", x.pass(last, 2, (1 << n) - 1), last);
            due.is("pass of node n", x.pass(n, 2, 0), BAD);
            due.is("bring to node n", x.bring(1, n), BAD);
            due.is("bringVote to node n", x.bringVote(last, 1, n), BAD);
            due.is("bringVote of node n", x.bringVote(n, 1, 0), BAD);
            due.is("bringVote of the last", x.bringVote(last, 1, 0), 1);
            due.is("flow(n)", x.flow(n), BAD);
            due.is("flow(last)", x.flow(last), 0);
            due.is("seen(n, 0)", x.seen(n, 0), BAD);
            due.is("seen(last, 1)", x.seen(last, 1), 2);
            due.is("votes(n, 1)", x.votes(n, 1), BAD);
            due.is("votes(last, 1)", x.votes(last, 1), 1);
            due.is("voted(n, 1)", x.voted(n, 1), BAD);
            due.is("voted(last, 1)", x.voted(last, 1), 1);
            due.is("reach(n, 0)", x.reach(n, 0), BAD);
            due.is("reach(last, 0)", x.reach(last, 0), 0);
            due.is("ledger(n, 0)", x.ledger(n, 0), BAD);
            due.is("ledger(last, 0)", x.ledger(last, 0), NONE);
        }
    }

    private static void allTrueAtFirst() {
        due.sentence("Terms", "each is TRUE or FALSE (all TRUE at first)");
        StreamChain x = new StreamChain(10);
        due.is("FALSE nodes", x.count(3), 0);
        Scenes.begin(x, 10);
        for (int node = 0; node < 10; node++) {
            due.is("it voted as a TRUE one", x.voted(node, node == 0 ? 10 : node), node == 0 ? 10 : node);
            due.is("it is not told to vote", x.lie(node, 1, 0), STATE);
            due.is("it was not FALSE", x.fall(node), 1);
        }
    }

    private static void presentEpoch() {
        due.sentence("Terms", "EPOCHS are 1, 2, .., up to 40; one of them is present (0: none has begun).");
        StreamChain x = new StreamChain(7);
        due.is("none has begun", x.count(1), 0);
        for (int epoch = 1; epoch <= 40; epoch++) {
            due.is("the next one", x.epoch(), epoch);
            due.is("is present", x.count(1), epoch);
        }
        due.is("there is no next one", x.epoch(), STATE);
        due.is("the last one stays present", x.count(1), 40);
        due.is("voted(0, 0)", x.voted(0, 0), BAD);
        due.is("voted(0, 40)", x.voted(0, 40), NONE);
        due.is("voted(0, 41)", x.voted(0, 41), BAD);
    }

    private static void leadersWrapAround() {
        due.sentence("Terms", "Each has a LEADER: at first the NODE epoch modulo n.");
        for (int n = 4; n <= 10; n++) {
            StreamChain x = new StreamChain(n);
            for (int epoch = 1; epoch <= 40; epoch++) {
                x.epoch();
                due.is("maker of the block of " + epoch + " with " + n, x.about(epoch, 4), epoch % n);
            }
        }
    }

    private static void firstBlock() {
        due.sentence("Terms", "BLOCKS: 0 is the FIRST one, of EPOCH 0");
        StreamChain x = new StreamChain(4);
        int[] want = {NONE, 0, 0, 0, NONE};
        for (int what = 0; what < want.length; what++) {
            due.is("about(0, " + what + ")", x.about(0, what), want[what]);
        }
        due.is("there is no block 1", x.about(1, 0), BAD);
        due.is("it has no votes", x.votes(0, 0), 0);
        due.is("nor is it under way", x.bring(0, 0), STATE);
        due.is("nor is a vote for it", x.bringVote(1, 0, 0), STATE);
        due.is("the next one is 1", x.epoch(), 1);
        due.is("and is on it", x.about(1, 0), 0);
    }

    private static void loads() {
        due.sentence("Terms", "a LOAD: a set of WISHES 0 .. 31");
        StreamChain x = Scenes.withFalse(4, 0);
        int[] sets = {0, -1, Integer.MIN_VALUE, Integer.MAX_VALUE};
        for (int i = 0; i < sets.length; i++) {
            due.is("propose", x.propose(0, 0, 4, sets[i], 0), i + 1);
            due.is("its load", x.about(i + 1, 2), sets[i]);
        }
        for (int wish = 0; wish < 32; wish++) {
            StreamChain y = new StreamChain(4);
            y.wish(1, wish);
            y.epoch();
            due.is("load of wish " + wish, y.about(1, 2), 1 << wish);
        }
    }

    private static void sixtyProposed() {
        due.sentence("Terms", "60 BLOCKS at most are made.");
        StreamChain x = Scenes.withFalse(4, 0);
        for (int made = 1; made <= 60; made++) {
            due.is("propose", x.propose(0, 0, 4, 0, 0), made);
        }
        due.is("one too many", x.propose(0, 0, 4, 0, 0), StreamChain.FULL);
        due.is("blocks with the first one", x.count(2), 61);
        due.is("block 60", x.about(60, 1), 4);
        due.is("block 61", x.about(61, 1), BAD);
    }

    private static void sixtyBegunAndProposed() {
        due.sentence("Terms", "60 BLOCKS at most are made.");
        StreamChain x = new StreamChain(4);
        Scenes.begin(x, 39);
        x.fall(3);
        for (int made = 40; made <= 59; made++) {
            due.is("propose", x.propose(3, 0, 39, 0, 0), made);
        }
        due.is("the 60th as an epoch begins", x.epoch(), 40);
        due.is("blocks with the first one", x.count(2), 61);
        due.is("maker of block 60", x.about(60, 4), 0);
        due.is("one too many", x.propose(3, 0, 39, 0, 0), StreamChain.FULL);
    }

    private static void heightsOfOneChain() {
        due.sentence("Terms", "HEIGHT: 0 of the FIRST one, 1 more than its PARENT's of others.");
        StreamChain x = Scenes.full();
        for (int block = 0; block <= 60; block++) {
            due.is("height of " + block, x.about(block, 3), block);
        }
    }

    private static void heightsSideBySide() {
        due.sentence("Terms", "HEIGHT: 0 of the FIRST one, 1 more than its PARENT's of others.");
        StreamChain x = Scenes.withFalse(4, 0);
        for (int block = 1; block <= 60; block++) {
            x.propose(0, block <= 30 ? 0 : block - 30, 4, 0, 0);
            due.is("height of " + block, x.about(block, 3), block <= 30 ? 1 : 2);
        }
    }

    /** Three FALSE nodes of four notarize a chain of 60 to node 3; its last epochs are in a row. */
    private static StreamChain longFinalChain() {
        StreamChain x = Scenes.withFalse(4, 0, 1, 2);
        for (int epoch = 1; epoch <= 3; epoch++) {
            x.lead(epoch, 0);
        }
        for (int block = 1; block <= 60; block++) {
            x.propose(0, block - 1, block < 58 ? 40 : block - 57, 0, 8);
            for (int voter = 0; voter < 3; voter++) {
                x.lie(voter, block, 8);
            }
        }
        due.is("all letters come", x.flow(3), 240);
        return x;
    }

    private static void chainDownToTheFirst() {
        due.sentence("Terms", "The CHAIN of a BLOCK: it, its PARENT, and so on down to the FIRST one.");
        StreamChain x = longFinalChain();
        for (int block = 0; block <= 59; block++) {
            due.is("seen(3, " + block + ")", x.seen(3, block), 4);
        }
        due.is("seen(3, 60)", x.seen(3, 60), 3);
        due.is("highest final", x.reach(3, 2), 59);
        due.is("agree", x.agree(), 1);
    }

    private static void hasOrUnderWayOrNeither() {
        due.sentence("Terms", "A NODE HAS a LETTER, or it is UNDER WAY to it, or neither.");
        StreamChain x = Scenes.withFalse(4, 0, 1);
        x.propose(0, 0, 4, 0, 0);
        due.is("neither", x.bring(1, 1), STATE);
        due.is("neither, so it is nothing", x.seen(1, 1), 0);
        due.is("sent", x.pass(0, 1, 2), 1);
        due.is("under way just once", x.pass(0, 1, 2), 0);
        due.is("under way", x.count(4), 1);
        due.is("it has it not", x.seen(1, 1), 0);
        due.is("it comes", x.bring(1, 1), 1);
        due.is("it has it", x.seen(1, 1), 2);
        due.is("it is not under way any more", x.count(4), 0);
        due.is("nor does it come again", x.bring(1, 1), STATE);
        due.is("nor can it be sent again", x.pass(0, 1, 2), 0);
        due.is("a vote that its giver has", x.lie(0, 1, 1), 0);
        due.is("is not under way to it", x.bringVote(0, 1, 0), STATE);
    }

    private static void underWayToAllThatDoNotHaveIt() {
        due.sentence("Terms",
            "What a TRUE NODE comes to HAVE is UNDER WAY from then on to all that do not HAVE it");
        StreamChain x = new StreamChain(10);
        x.epoch();
        due.is("block and vote to nine", x.count(4), 18);
        x.bring(1, 9);
        due.is("block to eight, its votes to nine each", x.count(4), 26);
        due.is("not to the one that has it", x.bring(1, 1), STATE);
        due.is("not to the one to which it came", x.bring(1, 9), STATE);
        due.is("nor is its own vote", x.bringVote(9, 1, 9), STATE);
        due.is("which comes to the maker", x.bringVote(9, 1, 1), 1);
    }

    private static void underWayAlsoToFalseOnes() {
        due.sentence("Terms", "(also to FALSE ones)");
        StreamChain x = Scenes.withFalse(4, 0, 2, 3);
        x.epoch();
        due.is("block and vote to three FALSE ones", x.count(4), 6);
        due.is("the block comes to one", x.bring(1, 0), 1);
        due.is("the vote as well", x.bringVote(1, 1, 0), 1);
        due.is("by flow to another", x.flow(2), 2);
        due.is("by settle to the last", x.settle(), 2);
        due.is("seen by a FALSE one", x.seen(3, 1), 2);
    }

    private static void underWayFromThenOn() {
        due.sentence("Terms",
            "What a TRUE NODE comes to HAVE is UNDER WAY from then on to all that do not HAVE it");
        StreamChain x = Scenes.withFalse(4, 0);
        x.propose(0, 0, 4, 0, 2);
        due.is("a TRUE one has it not yet", x.count(4), 1);
        x.bring(1, 1);
        due.is("from then on it goes to 2 and 3", x.count(4), 2);
        x.fall(1);
        due.is("also when that one has fallen", x.count(4), 2);
        due.is("it comes to 2", x.bring(1, 2), 1);
        due.is("it comes to 3", x.bring(1, 3), 1);
        x.propose(0, 0, 4, 0, 4);
        x.fall(2);
        x.bring(2, 2);
        due.is("one that fell ahead of it does not send it on", x.count(4), 0);
    }

    private static void comesWhenItIsLet() {
        due.sentence("Terms", "A LETTER comes to a NODE to which it is UNDER WAY, when it is let.");
        StreamChain x = new StreamChain(4);
        Scenes.begin(x, 4);
        due.is("no letter came by itself", x.count(6), 0);
        due.is("all wait", x.count(4), 24);
        for (int node = 0; node < 4; node++) {
            int own = node == 0 ? 4 : node;
            for (int block = 1; block <= 4; block++) {
                due.is("seen(" + node + ", " + block + ")", x.seen(node, block), block == own ? 2 : 0);
            }
        }
        due.is("one of the oldest is let come", x.bringVote(1, 1, 0), 1);
        due.is("one came", x.count(6), 1);
    }

    private static void firstIsKnown() {
        due.sentence("Terms", "a BLOCK is KNOWN, if it is the FIRST one");
        StreamChain x = Scenes.withFalse(4, 0);
        x.propose(0, 0, 4, 0, 8);
        x.bring(1, 3);
        due.is("on the first one, whose proposal none has", x.seen(3, 1), 2);
    }

    private static void knownOnAKnownParent() {
        due.sentence("Terms", "or the NODE HAS its PROPOSAL, and its PARENT is KNOWN");
        StreamChain x = Scenes.full();
        for (int block = 2; block <= 60; block++) {
            x.pass(0, block, 8);
        }
        x.flow(3);
        for (int block = 2; block <= 60; block++) {
            due.is("had without block 1", x.seen(3, block), 1);
        }
        Scenes.show(x, 1, 3);
        for (int block = 1; block <= 60; block++) {
            due.is("known with block 1", x.seen(3, block), 2);
        }
    }

    private static void votesOfSoManyNodes() {
        due.sentence("Terms",
            "the NODE HAS VOTES for it of so many NODES that three times as many are 2 n or more");
        int[] enough = {3, 4, 4, 5, 6, 6, 7};
        for (int n = 4; n <= 10; n++) {
            StreamChain x = new StreamChain(n);
            for (int node = 0; node < n; node++) {
                x.fall(node);
            }
            x.propose(1, 0, 1, 0, 1);
            x.bring(1, 0);
            // The last ones first, so that which nodes vote makes no difference.
            for (int given = 1; given <= n; given++) {
                x.lie(n - given, 1, 1);
                x.bringVote(n - given, 1, 0);
                int want = given < enough[n - 4] ? 2 : 3;
                due.is("seen with " + given + " votes of " + n, x.seen(0, 1), want);
                due.is("REACH with " + given + " votes of " + n, x.reach(0, 0), want - 2);
            }
        }
    }

    private static void notarizedOnlyIfKnown() {
        due.sentence("Terms", "it is NOTARIZED, if it is the FIRST one, or it is KNOWN");
        StreamChain x = Scenes.underFalseOnes();
        x.propose(0, 0, 1, 0, 0);
        Scenes.vote(x, 1, 5);
        due.is("votes enough", x.votes(5, 1), 4);
        due.is("without the proposal", x.seen(5, 1), 0);
        due.is("REACH", x.reach(5, 0), 0);
        Scenes.show(x, 1, 5);
        due.is("with it", x.seen(5, 1), 3);
        due.is("REACH", x.reach(5, 0), 1);
    }

    private static void notarizedOnANotarizedParent() {
        due.sentence("Terms", "its PARENT is NOTARIZED");
        StreamChain x = Scenes.underFalseOnes();
        x.propose(0, 0, 3, 0, 32);
        x.bring(1, 5);
        Scenes.notarize(x, 1, 5, 0, 5);
        due.is("votes enough", x.votes(5, 2), 4);
        due.is("its parent is known", x.seen(5, 1), 2);
        due.is("so it is known", x.seen(5, 2), 2);
        due.is("REACH", x.reach(5, 0), 0);
        Scenes.vote(x, 1, 5);
        due.is("now its parent is notarized", x.seen(5, 1), 3);
        due.is("and so it is", x.seen(5, 2), 3);
        due.is("REACH", x.reach(5, 0), 2);
    }

    private static void greatestHeight() {
        due.sentence("Terms", "The GREATEST HEIGHT of what is NOTARIZED to it is its REACH");
        due.is("at first", new StreamChain(4).reach(0, 0), 0);
        StreamChain x = longFinalChain();
        due.is("at most", x.reach(3, 0), 60);
        due.is("TIP", x.reach(3, 1), 60);
        due.is("of a node to which nothing came", x.reach(1, 0), 0);
    }

    private static void tipOfTheGreatestEpoch() {
        due.sentence("Terms", "the BLOCK NOTARIZED to it of that HEIGHT with the greatest EPOCH");
        StreamChain x = Scenes.underFalseOnes();
        Scenes.notarize(x, 0, 39, 0, 5);
        due.is("the only one", x.reach(5, 1), 1);
        Scenes.notarize(x, 0, 40, 0, 5);
        due.is("of a later epoch", x.reach(5, 1), 2);
        Scenes.notarize(x, 0, 1, 0, 5);
        due.is("not of an earlier one", x.reach(5, 1), 2);
        Scenes.notarize(x, 3, 1, 0, 5);
        due.is("of that height alone", x.reach(5, 1), 4);
    }

    private static void tipOfTheLeastNumber() {
        due.sentence("Terms", "of several the least number");
        StreamChain x = Scenes.underFalseOnes();
        x.propose(0, 0, 7, 0, 0);
        Scenes.notarize(x, 0, 7, 0, 5);
        Scenes.notarize(x, 0, 7, 0, 5);
        due.is("the first that was notarized", x.reach(5, 1), 2);
        Scenes.show(x, 1, 5);
        Scenes.vote(x, 1, 5);
        due.is("the least, though it was the last", x.reach(5, 1), 1);
    }

    private static void firstIsFinal() {
        due.sentence("Terms", "FINAL to a NODE is a BLOCK, if it is the FIRST one");
        StreamChain x = new StreamChain(10);
        for (int node = 0; node < 10; node++) {
            due.is("seen(" + node + ", 0)", x.seen(node, 0), 4);
            due.is("highest final", x.reach(node, 2), 0);
        }
    }

    private static void threeBlocksNotarized() {
        due.sentence("Terms", "or if there are three BLOCKS NOTARIZED to it");
        StreamChain x = Scenes.underFalseOnes();
        Scenes.notarize(x, 0, 38, 0, 5);
        Scenes.notarize(x, 1, 39, 0, 5);
        due.is("two are too few", x.reach(5, 2), 0);
        x.propose(0, 2, 40, 0, 32);
        x.bring(3, 5);
        due.is("the third is just known", x.reach(5, 2), 0);
        Scenes.vote(x, 3, 5);
        due.is("the third is notarized", x.reach(5, 2), 2);
    }

    private static void eachTheParentOfTheNext() {
        due.sentence("Terms", "each the PARENT of the next one");
        StreamChain x = Scenes.underFalseOnes();
        Scenes.notarize(x, 0, 5, 0, 5);
        Scenes.notarize(x, 1, 6, 0, 5);
        Scenes.notarize(x, 1, 7, 0, 5);
        due.is("5, 6 and beside it 7", x.reach(5, 2), 0);
        Scenes.notarize(x, 0, 6, 0, 5);
        Scenes.notarize(x, 4, 7, 0, 5);
        due.is("6 and 7 on it beside 5", x.reach(5, 2), 0);
        Scenes.notarize(x, 2, 7, 0, 5);
        due.is("5, 6 on it, 7 on that", x.reach(5, 2), 2);
    }

    private static void epochsEachOneMore() {
        due.sentence("Terms", "whose EPOCHS are each 1 more than that of the one ahead");
        int[][] rows = {{5, 6, 7}, {5, 6, 8}, {5, 7, 8}, {5, 6, 6}, {5, 5, 6}, {7, 6, 5}, {5, 6, 5},
            {38, 39, 40}, {40, 39, 40}, {40, 1, 2}};
        for (int[] row : rows) {
            StreamChain x = Scenes.underFalseOnes();
            for (int i = 0; i < 3; i++) {
                Scenes.notarize(x, i, row[i], 0, 5);
            }
            boolean inARow = row[1] == row[0] + 1 && row[2] == row[1] + 1;
            due.is("REACH of " + row[0] + ", " + row[1] + ", " + row[2], x.reach(5, 0), 3);
            due.is("final of " + row[0] + ", " + row[1] + ", " + row[2], x.reach(5, 2), inARow ? 2 : 0);
        }
    }

    private static void secondOneOrInItsChain() {
        due.sentence("Terms", "the BLOCK is the second one of them or in its CHAIN");
        StreamChain x = Scenes.underFalseOnes();
        int[] epochs = {20, 10, 11, 12};
        for (int i = 0; i < epochs.length; i++) {
            Scenes.notarize(x, i, epochs[i], 0, 5);
        }
        Scenes.notarize(x, 1, 40, 0, 5);
        int[] want = {4, 4, 4, 4, 3, 3};
        for (int block = 0; block < want.length; block++) {
            due.is("seen(5, " + block + ")", x.seen(5, block), want[block]);
        }
    }

    private static void firstOneMayBeTheFirstOfThree() {
        due.sentence("Terms", "(The FIRST one may be the first of three.)");
        StreamChain x = Scenes.underFalseOnes();
        Scenes.notarize(x, 0, 1, 0, 5);
        due.is("two in a row", x.seen(5, 1), 3);
        Scenes.notarize(x, 1, 2, 0, 5);
        due.is("0, 1, 2", x.seen(5, 1), 4);
        due.is("the third", x.seen(5, 2), 3);
        StreamChain y = Scenes.underFalseOnes();
        Scenes.notarize(y, 0, 2, 0, 5);
        Scenes.notarize(y, 1, 3, 0, 5);
        due.is("0, 2, 3", y.seen(5, 1), 3);
    }
}
