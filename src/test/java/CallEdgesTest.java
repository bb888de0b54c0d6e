/** Promises 1 to 12: a test for each sentence that names a boundary case. */
public final class CallEdgesTest {
    private static final Due due = new Due("CallEdgesTest");
    private static final int BAD = StreamChain.BAD;
    private static final int STATE = StreamChain.STATE;
    private static final int FULL = StreamChain.FULL;
    private static final int NONE = StreamChain.NONE;
    private static final int MIN = Integer.MIN_VALUE;
    private static final int MAX = Integer.MAX_VALUE;
    /** No nodes of a net of four. */
    private static final int[] NO_NODES = {MIN, -1, 4, 5, 10, MAX};
    private static final int[] NO_EPOCHS = {MIN, -40, -1, 0, 41, 42, MAX};
    private static final int[] NO_SETS = {MIN, -2, -1, 16, 31, 1 << 30, MAX};

    public static void main(String[] args) {
        fourAtLeast();
        tenAtMost();
        leadTellsWhichWas();
        leadBad();
        leadOfWhatHasBegun();
        leadOfWhatHasABlock();
        fallFromNowOn();
        fallAlready();
        fallBad();
        wishHeld();
        wishAlready();
        wishBad();
        epochNumbers();
        epochState();
        epochFull();
        epochOfAFalseLeaderIsNeverFull();
        bringBad();
        bringState();
        bringVoteBad();
        bringVoteState();
        bringVoteToAnother();
        flowOfNothing();
        flowAsThisIsTold();
        flowByBlocks();
        flowProposalFirst();
        flowHowMany();
        flowBad();
        settleOfNothing();
        settleByNumbers();
        settleAgainAndAgain();
        settleHowManyAtMost();
        proposeOfEpochs();
        proposeOnBlocks();
        proposeLoads();
        proposeToNoneAndAll();
        proposeBad();
        proposeStateTrue();
        proposeStateNotTheLeader();
        proposeFull();
        lieButTheFirst();
        lieAgain();
        lieToHowManyMore();
        lieBad();
        lieState();
        passWhatItHas();
        passToHowManyMore();
        passBad();
        passStateTrue();
        passStateHasItNot();
        due.end();
    }

    private static void fourAtLeast() {
        due.sentence("Promise 1", "4 at least, 10 at most (below that, above that: 4, 10)");
        int[] few = {MIN, MIN + 1, -10, -4, -1, 0, 1, 2, 3, 4};
        for (int nodes : few) {
            due.is("nodes of " + nodes, new StreamChain(nodes).count(0), 4);
            due.is("node 3 of " + nodes, new StreamChain(nodes).flow(3), 0);
            due.is("node 4 of " + nodes, new StreamChain(nodes).flow(4), BAD);
        }
        due.is("nodes of 5", new StreamChain(5).count(0), 5);
    }

    private static void tenAtMost() {
        due.sentence("Promise 1", "4 at least, 10 at most (below that, above that: 4, 10)");
        due.is("nodes of 9", new StreamChain(9).count(0), 9);
        int[] many = {10, 11, 12, 14, 32, 64, 1 << 16, 1 << 30, MAX - 1, MAX};
        for (int nodes : many) {
            due.is("nodes of " + nodes, new StreamChain(nodes).count(0), 10);
            due.is("node 9 of " + nodes, new StreamChain(nodes).flow(9), 0);
            due.is("node 10 of " + nodes, new StreamChain(nodes).flow(10), BAD);
        }
    }

    private static void leadTellsWhichWas() {
        due.sentence("Promise 2", "A NODE is the LEADER of an EPOCH (1 .. 40): which was.");
        StreamChain x = new StreamChain(10);
        due.is("of the first one", x.lead(1, 9), 1);
        due.is("again", x.lead(1, 9), 9);
        due.is("and another", x.lead(1, 0), 9);
        due.is("of the last one", x.lead(40, 9), 0);
        due.is("again", x.lead(40, 3), 9);
        due.is("of another one it is as it was", x.lead(39, 3), 9);
        x.epoch();
        due.is("the leader makes the block", x.about(1, 4), 0);
        due.is("of the next one", x.lead(2, 2), 2);
    }

    private static void leadBad() {
        due.sentence("Promise 2", "BAD");
        StreamChain x = new StreamChain(4);
        for (int epoch : NO_EPOCHS) {
            due.is("lead(" + epoch + ", 0)", x.lead(epoch, 0), BAD);
        }
        for (int node : NO_NODES) {
            due.is("lead(1, " + node + ")", x.lead(1, node), BAD);
        }
        due.is("lead(0, 4)", x.lead(0, 4), BAD);
        due.is("lead(1, 3)", x.lead(1, 3), 1);
    }

    private static void leadOfWhatHasBegun() {
        due.sentence("Promise 2", "STATE: that EPOCH has begun");
        // All are FALSE, so that no epoch has a block.
        StreamChain x = Scenes.withFalse(4, 0, 1, 2, 3);
        for (int epoch = 1; epoch <= 40; epoch++) {
            due.is("it has not yet", x.lead(epoch, 1), epoch % 4);
            x.epoch();
            due.is("it is present", x.lead(epoch, 1), STATE);
            due.is("the first one has", x.lead(1, 1), STATE);
        }
        due.is("blocks", x.count(2), 1);
    }

    private static void leadOfWhatHasABlock() {
        due.sentence("Promise 2", "or a BLOCK of it is made");
        StreamChain x = Scenes.withFalse(4, 1);
        due.is("ahead", x.lead(40, 1), 0);
        due.is("a block of the last one", x.propose(1, 0, 40, 0, 0), 1);
        due.is("lead of it", x.lead(40, 0), STATE);
        due.is("also by its leader", x.lead(40, 1), STATE);
        due.is("lead of the one ahead", x.lead(39, 0), 3);
        due.is("a block of the first one", x.propose(1, 1, 1, 0, 0), 2);
        due.is("lead of it", x.lead(1, 0), STATE);
    }

    private static void fallFromNowOn() {
        due.sentence("Promise 3", "A NODE is FALSE from now on: 1");
        StreamChain x = new StreamChain(10);
        x.epoch();
        for (int node = 0; node < 10; node++) {
            due.is("fall(" + node + ")", x.fall(node), 1);
            due.is("FALSE nodes", x.count(3), node + 1);
        }
        due.is("what was made stays", x.count(2), 2);
        due.is("what was given stays", x.voted(1, 1), 1);
        due.is("what is under way stays", x.count(4), 18);
        due.is("all come", x.settle(), 18);
        due.is("no vote more", x.count(5), 1);
        due.is("epochs begin all the same", x.epoch(), 2);
        due.is("without a block", x.count(2), 2);
    }

    private static void fallAlready() {
        due.sentence("Promise 3", "it is already: 0");
        StreamChain x = new StreamChain(4);
        due.is("fall(0)", x.fall(0), 1);
        due.is("fall(0) again", x.fall(0), 0);
        due.is("and again", x.fall(0), 0);
        due.is("FALSE nodes", x.count(3), 1);
        due.is("another", x.fall(3), 1);
        due.is("another again", x.fall(3), 0);
    }

    private static void fallBad() {
        due.sentence("Promise 3", "BAD");
        StreamChain x = new StreamChain(4);
        for (int node : NO_NODES) {
            due.is("fall(" + node + ")", x.fall(node), BAD);
        }
        due.is("FALSE nodes", x.count(3), 0);
    }

    private static void wishHeld() {
        due.sentence("Promise 4", "A NODE holds a WISH: 1");
        StreamChain x = new StreamChain(4);
        for (int node = 0; node < 4; node++) {
            due.is("the least", x.wish(node, 0), 1);
            due.is("the greatest", x.wish(node, 31), 1);
        }
        x.fall(2);
        due.is("of a FALSE one", x.wish(2, 30), 1);
        x.epoch();
        due.is("load", x.about(1, 2), 1 << 31 | 1);
        due.is("one that is in a block can be held", x.wish(1, 1), 1);
    }

    private static void wishAlready() {
        due.sentence("Promise 4", "it does already: 0");
        StreamChain x = new StreamChain(4);
        for (int wish = 0; wish < 32; wish++) {
            due.is("wish(0, " + wish + ")", x.wish(0, wish), 1);
        }
        for (int wish = 0; wish < 32; wish++) {
            due.is("again", x.wish(0, wish), 0);
        }
        due.is("another node does not", x.wish(1, 0), 1);
        x.epoch();
        x.settle();
        due.is("also when it is in a block", x.wish(1, 0), 0);
    }

    private static void wishBad() {
        due.sentence("Promise 4", "BAD");
        StreamChain x = new StreamChain(4);
        for (int node : NO_NODES) {
            due.is("wish(" + node + ", 0)", x.wish(node, 0), BAD);
        }
        int[] noWishes = {MIN, -32, -1, 32, 33, 63, 64, MAX};
        for (int wish : noWishes) {
            due.is("wish(1, " + wish + ")", x.wish(1, wish), BAD);
        }
        x.epoch();
        due.is("none is held", x.about(1, 2), 0);
    }

    private static void epochNumbers() {
        due.sentence("Promise 5", "The next EPOCH begins: its number.");
        StreamChain x = new StreamChain(4);
        due.is("the first", x.epoch(), 1);
        due.is("the next", x.epoch(), 2);
        Scenes.begin(x, 37);
        due.is("the last", x.epoch(), 40);
    }

    private static void epochState() {
        due.sentence("Promise 5", "STATE: 40 have");
        StreamChain x = new StreamChain(4);
        Scenes.begin(x, 39);
        due.is("39 have", x.epoch(), 40);
        due.is("40 have", x.epoch(), STATE);
        due.is("and again", x.epoch(), STATE);
        due.is("also if all fall", x.fall(0) + x.fall(1) + x.fall(2) + x.fall(3), 4);
        due.is("no next one", x.epoch(), STATE);
        due.is("no block more", x.count(2), 41);
    }

    private static void epochFull() {
        due.sentence("Promise 5", "FULL: its LEADER is TRUE, and 60 BLOCKS are made.");
        StreamChain x = Scenes.withFalse(4, 0);
        for (int made = 1; made <= 59; made++) {
            x.propose(0, 0, 40, 0, 0);
        }
        due.is("59 are made", x.epoch(), 1);
        due.is("60 are made", x.epoch(), FULL);
        due.is("and again", x.epoch(), FULL);
        due.is("the first is still present", x.count(1), 1);
        due.is("its leader falls", x.fall(2), 1);
        due.is("so it begins", x.epoch(), 2);
        due.is("without a block", x.count(2), 61);
        due.is("the next one's is TRUE", x.epoch(), FULL);
        due.is("it gets another one", x.lead(3, 0), 3);
        due.is("so it begins", x.epoch(), 3);
    }

    private static void epochOfAFalseLeaderIsNeverFull() {
        due.sentence("Promise 5", "FULL: its LEADER is TRUE, and 60 BLOCKS are made.");
        StreamChain x = Scenes.full();
        x.fall(1);
        x.fall(2);
        x.fall(3);
        for (int epoch = 1; epoch <= 40; epoch++) {
            due.is("epoch", x.epoch(), epoch);
        }
        due.is("blocks", x.count(2), 61);
        due.is("all have begun", x.epoch(), STATE);
    }

    private static void bringBad() {
        due.sentence("Promise 6", "BAD");
        StreamChain x = new StreamChain(4);
        due.is("ahead of all blocks", x.bring(1, 0), BAD);
        x.epoch();
        int[] noBlocks = {MIN, -1, 2, 3, 60, 61, 64, 65, MAX};
        for (int block : noBlocks) {
            due.is("bring(" + block + ", 0)", x.bring(block, 0), BAD);
        }
        for (int node : NO_NODES) {
            due.is("bring(1, " + node + ")", x.bring(1, node), BAD);
        }
        due.is("the last one there is", x.bring(1, 3), 1);
    }

    private static void bringState() {
        due.sentence("Promise 6", "STATE: it is not UNDER WAY to it.");
        StreamChain x = Scenes.withFalse(4, 0);
        due.is("the first one", x.bring(0, 3), STATE);
        x.propose(0, 0, 4, 0, 2);
        due.is("sent to another", x.bring(1, 3), STATE);
        due.is("to its maker", x.bring(1, 0), STATE);
        due.is("it came", x.bring(1, 1), 1);
        due.is("it came already", x.bring(1, 1), STATE);
        due.is("sent on", x.bring(1, 3), 1);
        due.is("letters that came", x.count(6), 2);
    }

    private static void bringVoteBad() {
        due.sentence("Promise 7", "BAD");
        StreamChain x = new StreamChain(4);
        due.is("ahead of all blocks", x.bringVote(1, 1, 0), BAD);
        x.epoch();
        int[] noBlocks = {MIN, -1, 2, 3, 60, 61, 64, 65, MAX};
        for (int block : noBlocks) {
            due.is("for " + block, x.bringVote(1, block, 0), BAD);
        }
        // 33 is 1 by its last five bits, and 1 voted.
        int[] noNodes = {MIN, -1, 4, 33, MAX};
        for (int node : noNodes) {
            due.is("of " + node, x.bringVote(node, 1, 0), BAD);
            due.is("to " + node, x.bringVote(1, 1, node), BAD);
        }
        due.is("votes that came", x.votes(0, 1), 0);
    }

    private static void bringVoteState() {
        due.sentence("Promise 7", "STATE: it is not UNDER WAY to it.");
        StreamChain x = Scenes.withFalse(4, 0);
        due.is("for the first one", x.bringVote(0, 0, 3), STATE);
        x.propose(0, 0, 4, 0, 0);
        due.is("none was given", x.bringVote(0, 1, 3), STATE);
        x.lie(0, 1, 2);
        due.is("sent to another", x.bringVote(0, 1, 3), STATE);
        due.is("it came", x.bringVote(0, 1, 1), 1);
        due.is("it came already", x.bringVote(0, 1, 1), STATE);
        due.is("the other's was not given", x.bringVote(1, 1, 3), STATE);
        due.is("sent on", x.bringVote(0, 1, 3), 1);
        due.is("letters that came", x.count(6), 2);
    }

    private static void bringVoteToAnother() {
        due.sentence("Promise 7", "The VOTE of a NODE for a BLOCK comes to another NODE: 1.");
        StreamChain x = new StreamChain(4);
        x.epoch();
        x.bring(1, 3);
        due.is("of 3 to itself", x.bringVote(3, 1, 3), STATE);
        due.is("of 1 to itself", x.bringVote(1, 1, 1), STATE);
        due.is("of 3 to 1", x.bringVote(3, 1, 1), 1);
        due.is("of 1 to 3", x.bringVote(1, 1, 3), 1);
        due.is("of 1 to 0, which has no proposal", x.bringVote(1, 1, 0), 1);
        due.is("votes of 0", x.votes(0, 1), 1);
        due.is("the block is nothing to it", x.seen(0, 1), 0);
    }

    private static void flowOfNothing() {
        due.sentence("Promise 8", "All that is UNDER WAY to a NODE as this is told comes to it");
        StreamChain x = new StreamChain(4);
        for (int node = 0; node < 4; node++) {
            due.is("nothing is under way", x.flow(node), 0);
        }
        x.epoch();
        due.is("nothing to the maker", x.flow(1), 0);
        due.is("all to another", x.flow(0), 2);
        due.is("nothing more", x.flow(0), 0);
        due.is("letters that came", x.count(6), 2);
    }

    private static void flowAsThisIsTold() {
        due.sentence("Promise 8", "All that is UNDER WAY to a NODE as this is told comes to it");
        StreamChain x = new StreamChain(4);
        x.epoch();
        due.is("flow(3)", x.flow(3), 2);
        due.is("it voted meanwhile, which goes to others", x.voted(3, 1), 1);
        due.is("not to itself", x.flow(3), 0);
        due.is("block and vote of 1 to two, vote of 3 to three", x.count(4), 7);
    }

    private static void flowByBlocks() {
        due.sentence("Promise 8", "by BLOCKS");
        StreamChain x = Scenes.underFalseOnes();
        x.propose(0, 0, 5, 0, 32);
        x.propose(0, 0, 1, 0, 32);
        for (int voter = 0; voter < 4; voter++) {
            x.lie(voter, 1, 32);
        }
        x.epoch();
        due.is("flow", x.flow(5), 6);
        due.is("1 was notarized ahead of 2, so there was no vote for 2", x.voted(5, 1), NONE);
        StreamChain y = Scenes.underFalseOnes();
        y.propose(0, 0, 1, 0, 32);
        y.propose(0, 0, 5, 0, 32);
        for (int voter = 0; voter < 4; voter++) {
            y.lie(voter, 2, 32);
        }
        y.epoch();
        due.is("flow", y.flow(5), 6);
        due.is("1 came ahead of what notarized 2, so there was a vote", y.voted(5, 1), 1);
    }

    private static void flowProposalFirst() {
        due.sentence("Promise 8", "of each first the PROPOSAL, then VOTES by NODES");
        StreamChain x = Scenes.underFalseOnes();
        x.epoch();
        x.propose(0, 0, 1, 0, 32);
        for (int voter = 0; voter < 4; voter++) {
            x.lie(voter, 1, 32);
        }
        due.is("flow", x.flow(5), 5);
        due.is("it voted ahead of the votes", x.voted(5, 1), 1);
        StreamChain y = Scenes.underFalseOnes();
        y.epoch();
        y.propose(0, 0, 1, 0, 32);
        Scenes.vote(y, 1, 5);
        y.bring(1, 5);
        due.is("the votes ahead of it would notarize it", y.seen(5, 1), 3);
        due.is("and it would not be voted for", y.voted(5, 1), NONE);
    }

    private static void flowHowMany() {
        due.sentence("Promise 8", "how many LETTERS");
        StreamChain x = Scenes.full();
        for (int block = 1; block <= 60; block++) {
            x.pass(0, block, 8);
            x.lie(0, block, 8);
        }
        due.is("60 proposals and 60 votes", x.flow(3), 120);
        due.is("letters that came", x.count(6), 120);
        due.is("all go on to two", x.count(4), 240);
        due.is("flow of another", x.flow(1), 120);
    }

    private static void flowBad() {
        due.sentence("Promise 8", "BAD");
        StreamChain x = new StreamChain(4);
        x.epoch();
        for (int node : NO_NODES) {
            due.is("flow(" + node + ")", x.flow(node), BAD);
        }
        due.is("letters that came", x.count(6), 0);
    }

    private static void settleOfNothing() {
        due.sentence("Promise 9", "until nothing is UNDER WAY");
        StreamChain x = new StreamChain(4);
        due.is("at first", x.settle(), 0);
        x.epoch();
        due.is("all of an epoch", x.settle(), 15);
        due.is("nothing is under way", x.count(4), 0);
        due.is("nothing more", x.settle(), 0);
        due.is("letters that came", x.count(6), 15);
    }

    private static void settleByNumbers() {
        due.sentence("Promise 9", "flow() of all NODES, by numbers");
        StreamChain x = Scenes.withFalse(4, 1);
        x.epoch();
        x.propose(1, 0, 1, 0, 8);
        x.propose(1, 0, 1, 0, 1);
        x.settle();
        due.is("0 is first, with block 2 alone", x.voted(0, 1), 2);
        due.is("2 has got that of 0", x.voted(2, 1), 2);
        due.is("3 has both at once", x.voted(3, 1), 1);
    }

    private static void settleAgainAndAgain() {
        due.sentence("Promise 9", "again and again, until nothing is UNDER WAY");
        StreamChain x = Scenes.withFalse(4, 1);
        x.epoch();
        x.propose(1, 0, 1, 0, 8);
        due.is("to 3 first, then to 0 and 2, then their votes to all", x.settle(), 12);
        due.is("nothing is under way", x.count(4), 0);
        for (int node = 0; node < 4; node++) {
            due.is("votes", x.votes(node, 1), 3);
        }
    }

    private static void settleHowManyAtMost() {
        due.sentence("Promise 9", "how many LETTERS");
        StreamChain x = Scenes.withFalse(4, 0, 1, 2);
        for (int block = 1; block <= 60; block++) {
            x.propose(0, block - 1, 4, 0, 15);
            for (int voter = 0; voter < 3; voter++) {
                x.lie(voter, block, 15);
            }
        }
        due.is("60 proposals and 180 votes to three each", x.settle(), 720);
        due.is("nothing is under way", x.count(4), 0);
        StreamChain y = new StreamChain(10);
        Scenes.begin(y, 40);
        due.is("40 blocks and their makers' votes to nine, nine votes more for the last", y.settle(), 720 + 81);
    }

    private static void proposeOfEpochs() {
        due.sentence("Promise 10", "A FALSE NODE makes a BLOCK of an EPOCH (1 .. 40) whose LEADER it is");
        StreamChain x = Scenes.withFalse(4, 0, 1);
        due.is("of the first one", x.propose(1, 0, 1, 0, 0), 1);
        due.is("its epoch", x.about(1, 1), 1);
        due.is("of the last one", x.propose(0, 0, 40, 0, 0), 2);
        due.is("its epoch", x.about(2, 1), 40);
        due.is("one led anew", x.lead(2, 1), 2);
        due.is("of that", x.propose(1, 0, 2, 0, 0), 3);
        due.is("its maker", x.about(3, 4), 1);
    }

    private static void proposeOnBlocks() {
        due.sentence("Promise 10", "on a BLOCK");
        StreamChain x = Scenes.withFalse(4, 0);
        due.is("on one that is not yet", x.propose(0, 1, 4, 0, 0), BAD);
        due.is("on the first one", x.propose(0, 0, 4, 0, 0), 1);
        due.is("on the last one", x.propose(0, 1, 4, 0, 0), 2);
        due.is("on the first one again", x.propose(0, 0, 4, 0, 0), 3);
        int[] parents = {NONE, 0, 1, 0};
        for (int block = 0; block < parents.length; block++) {
            due.is("parent of " + block, x.about(block, 0), parents[block]);
        }
    }

    private static void proposeLoads() {
        due.sentence("Promise 10", "with a LOAD");
        StreamChain x = Scenes.withFalse(4, 0);
        x.wish(0, 5);
        int[] loads = {0, 1, -1, MIN, MAX, -2};
        for (int i = 0; i < loads.length; i++) {
            due.is("propose with " + loads[i], x.propose(0, i, 4, loads[i], 0), i + 1);
            due.is("the load as told, whatever the chain has", x.about(i + 1, 2), loads[i]);
        }
    }

    private static void proposeToNoneAndAll() {
        due.sentence("Promise 10", "sends its PROPOSAL to those whose bits are set in to: the BLOCK");
        for (int n = 4; n <= 10; n++) {
            StreamChain x = Scenes.withFalse(n, 0);
            x.lead(1, 0);
            due.is("to none", x.propose(0, 0, 1, 0, 0), 1);
            due.is("under way", x.count(4), 0);
            due.is("to itself", x.propose(0, 0, 1, 0, 1), 2);
            due.is("under way", x.count(4), 0);
            due.is("to the last", x.propose(0, 0, 1, 0, 1 << n - 1), 3);
            due.is("under way", x.count(4), 1);
            due.is("to all", x.propose(0, 0, 1, 0, (1 << n) - 1), 4);
            due.is("under way to one, and to all but itself", x.count(4), n);
        }
    }

    private static void proposeBad() {
        due.sentence("Promise 10", "BAD: the NODE, the BLOCK, the EPOCH, to (below 0, bits of no NODE)");
        StreamChain x = Scenes.withFalse(4, 0);
        for (int node : NO_NODES) {
            due.is("of node " + node, x.propose(node, 0, 4, 0, 0), BAD);
        }
        int[] noBlocks = {MIN, -1, 1, 60, 61, 64, MAX};
        for (int block : noBlocks) {
            due.is("on block " + block, x.propose(0, block, 4, 0, 0), BAD);
        }
        for (int epoch : NO_EPOCHS) {
            due.is("of epoch " + epoch, x.propose(0, 0, epoch, 0, 0), BAD);
        }
        for (int to : NO_SETS) {
            due.is("to " + to, x.propose(0, 0, 4, 0, to), BAD);
        }
        due.is("no block is made", x.count(2), 1);
        StreamChain y = Scenes.withFalse(10, 0);
        due.is("to 1024, of ten", y.propose(0, 0, 10, 0, 1024), BAD);
        due.is("to 1023, of ten", y.propose(0, 0, 10, 0, 1023), 1);
    }

    private static void proposeStateTrue() {
        due.sentence("Promise 10", "STATE: it is TRUE");
        StreamChain x = new StreamChain(4);
        due.is("a TRUE leader", x.propose(0, 0, 4, 0, 0), STATE);
        due.is("it falls", x.fall(0), 1);
        due.is("a FALSE leader", x.propose(0, 0, 4, 0, 0), 1);
    }

    private static void proposeStateNotTheLeader() {
        due.sentence("Promise 10", "or not the LEADER");
        StreamChain x = Scenes.withFalse(4, 0);
        due.is("of another's epoch", x.propose(0, 0, 3, 0, 0), STATE);
        due.is("of its own", x.propose(0, 0, 8, 0, 0), 1);
        due.is("it leads that", x.lead(3, 0), 3);
        due.is("so that is its own", x.propose(0, 0, 3, 0, 0), 2);
        due.is("another leads its own", x.lead(4, 1), 0);
        due.is("so that is not", x.propose(0, 0, 4, 0, 0), STATE);
    }

    private static void proposeFull() {
        due.sentence("Promise 10", "FULL");
        StreamChain x = Scenes.withFalse(4, 0);
        Scenes.begin(x, 40);
        int made = x.count(2) - 1;
        due.is("30 epochs had a TRUE leader", made, 30);
        for (int i = made + 1; i <= 60; i++) {
            due.is("propose", x.propose(0, 0, 40, 0, 0), i);
        }
        due.is("60 are made", x.propose(0, 0, 40, 0, 0), FULL);
        due.is("and again", x.propose(0, 60, 40, 0, 15), FULL);
        due.is("blocks with the first one", x.count(2), 61);
    }

    private static void lieButTheFirst() {
        due.sentence("Promise 11", "A FALSE NODE votes for a BLOCK but the FIRST one");
        StreamChain x = Scenes.full();
        due.is("for the first one", x.lie(0, 0, 15), BAD);
        due.is("for the next", x.lie(0, 1, 15), 3);
        due.is("for the last", x.lie(0, 60, 15), 3);
        due.is("for no block", x.lie(0, 61, 15), BAD);
        due.is("votes for the first one", x.votes(0, 0), 0);
        due.is("votes for the last", x.votes(0, 60), 1);
    }

    private static void lieAgain() {
        due.sentence("Promise 11", "and sends that (again, perhaps) to those whose bits are set in to");
        StreamChain x = Scenes.withFalse(4, 0, 1);
        x.propose(0, 0, 4, 0, 0);
        due.is("to 1", x.lie(0, 1, 2), 1);
        due.is("again", x.lie(0, 1, 2), 0);
        due.is("to 1 and 3", x.lie(0, 1, 10), 1);
        due.is("it comes to 1", x.bringVote(0, 1, 1), 1);
        due.is("again to one that has it", x.lie(0, 1, 2), 0);
        due.is("it is not under way to that", x.bringVote(0, 1, 1), STATE);
        due.is("it is one vote", x.votes(0, 1), 1);
    }

    private static void lieToHowManyMore() {
        due.sentence("Promise 11", "to how many more it is UNDER WAY");
        for (int n = 4; n <= 10; n++) {
            StreamChain x = Scenes.withFalse(n, 0);
            x.lead(1, 0);
            x.propose(0, 0, 1, 0, 0);
            due.is("to none", x.lie(0, 1, 0), 0);
            due.is("to itself", x.lie(0, 1, 1), 0);
            due.is("to the last", x.lie(0, 1, 1 << n - 1), 1);
            due.is("to all", x.lie(0, 1, (1 << n) - 1), n - 2);
            due.is("to all again", x.lie(0, 1, (1 << n) - 1), 0);
            due.is("under way", x.count(4), n - 1);
        }
        StreamChain y = new StreamChain(4);
        y.epoch();
        y.fall(1);
        due.is("what it gave as a TRUE one is under way to all", y.lie(1, 1, 15), 0);
    }

    private static void lieBad() {
        due.sentence("Promise 11", "BAD");
        StreamChain x = Scenes.withFalse(4, 0);
        x.propose(0, 0, 4, 0, 0);
        for (int node : NO_NODES) {
            due.is("of node " + node, x.lie(node, 1, 0), BAD);
        }
        int[] noBlocks = {MIN, -1, 0, 2, 61, 65, MAX};
        for (int block : noBlocks) {
            due.is("for block " + block, x.lie(0, block, 0), BAD);
        }
        for (int to : NO_SETS) {
            due.is("to " + to, x.lie(0, 1, to), BAD);
        }
        due.is("no vote is given", x.votes(0, 1), 0);
    }

    private static void lieState() {
        due.sentence("Promise 11", "STATE: it is TRUE");
        StreamChain x = new StreamChain(4);
        x.epoch();
        due.is("the maker", x.lie(1, 1, 15), STATE);
        due.is("another", x.lie(0, 1, 15), STATE);
        due.is("it falls", x.fall(0), 1);
        due.is("it is FALSE", x.lie(0, 1, 15), 3);
    }

    private static void passWhatItHas() {
        due.sentence("Promise 12", "A FALSE NODE sends on a PROPOSAL that it HAS");
        StreamChain x = new StreamChain(4);
        x.epoch();
        x.bring(1, 0);
        x.fall(0);
        due.is("what came to it as a TRUE one", x.pass(0, 1, 15), 0);
        StreamChain y = Scenes.withFalse(4, 0, 1);
        y.propose(0, 0, 4, 0, 2);
        due.is("what it made", y.pass(0, 1, 4), 1);
        y.bring(1, 1);
        due.is("what came to it", y.pass(1, 1, 8), 1);
        due.is("it comes", y.bring(1, 3), 1);
    }

    private static void passToHowManyMore() {
        due.sentence("Promise 12", "to how many more it is UNDER WAY");
        for (int n = 4; n <= 10; n++) {
            StreamChain x = Scenes.withFalse(n, 0);
            x.lead(1, 0);
            x.propose(0, 0, 1, 0, 0);
            due.is("to none", x.pass(0, 1, 0), 0);
            due.is("to itself", x.pass(0, 1, 1), 0);
            due.is("to the last", x.pass(0, 1, 1 << n - 1), 1);
            due.is("to all", x.pass(0, 1, (1 << n) - 1), n - 2);
            due.is("to all again", x.pass(0, 1, (1 << n) - 1), 0);
            x.flow(n - 1);
            due.is("to one that has it", x.pass(0, 1, 1 << n - 1), 0);
            due.is("under way", x.count(4), n - 2);
        }
    }

    private static void passBad() {
        due.sentence("Promise 12", "BAD (the FIRST one, too)");
        StreamChain x = Scenes.withFalse(4, 0);
        x.propose(0, 0, 4, 0, 0);
        for (int node : NO_NODES) {
            due.is("of node " + node, x.pass(node, 1, 15), BAD);
        }
        int[] noBlocks = {MIN, -1, 0, 2, 61, 65, MAX};
        for (int block : noBlocks) {
            due.is("of block " + block, x.pass(0, block, 15), BAD);
        }
        for (int to : NO_SETS) {
            due.is("to " + to, x.pass(0, 1, to), BAD);
        }
        due.is("nothing is under way", x.count(4), 0);
    }

    private static void passStateTrue() {
        due.sentence("Promise 12", "STATE: it is TRUE");
        StreamChain x = new StreamChain(4);
        x.epoch();
        due.is("its maker", x.pass(1, 1, 15), STATE);
        due.is("it falls", x.fall(1), 1);
        due.is("its maker is FALSE", x.pass(1, 1, 15), 0);
    }

    private static void passStateHasItNot() {
        due.sentence("Promise 12", "or HAS it not");
        StreamChain x = Scenes.withFalse(4, 0, 1);
        x.propose(0, 0, 4, 0, 2);
        due.is("it is under way to it", x.pass(1, 1, 8), STATE);
        x.lie(1, 1, 0);
        due.is("it voted for it", x.pass(1, 1, 8), STATE);
        x.bring(1, 1);
        due.is("it has it", x.pass(1, 1, 8), 1);
    }
}
