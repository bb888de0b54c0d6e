/** Promises 5 to 9: epoch, bring, bringVote, flow, settle; and how a node LOOKS. */
public final class EpochsAndLettersTest {
    private static final Due due = new Due("EpochsAndLettersTest");
    private static final int BAD = StreamChain.BAD;
    private static final int STATE = StreamChain.STATE;
    private static final int NONE = StreamChain.NONE;

    public static void main(String[] args) {
        epochMakesOnTheTip();
        fortyEpochs();
        sixtyBlocks();
        bringRefuses();
        bringVoteRefuses();
        bringSpreads();
        flowInItsOrder();
        flowOfOneNodeAlone();
        settleComesToAnEnd();
        settleGoesByNumbers();
        voteForTheFirstThatCame();
        firstThatCameMayWait();
        proposalAheadOfItsEpoch();
        proposalAfterItsEpoch();
        noVoteBelowReach();
        noVoteForWhatIsNotKnown();
        noVoteOnWhatIsNotNotarized();
        voteOnceAParentIsNotarized();
        due.end();
    }

    private static void epochMakesOnTheTip() {
        StreamChain x = new StreamChain(4);
        due.is("epoch", x.epoch(), 1);
        due.is("parent", x.about(1, 0), 0);
        due.is("its epoch", x.about(1, 1), 1);
        due.is("the leader voted", x.voted(1, 1), 1);
        due.is("it has its vote", x.votes(1, 1), 1);
        due.is("no other voted", x.count(5), 1);
        due.is("both letters are under way to three", x.count(4), 6);
        due.is("nothing came yet", x.count(6), 0);
        x.settle();
        due.is("epoch", x.epoch(), 2);
        due.is("parent", x.about(2, 0), 1);
        due.is("height", x.about(2, 3), 2);
        due.is("maker", x.about(2, 4), 2);
    }

    private static void fortyEpochs() {
        StreamChain x = new StreamChain(4);
        for (int epoch = 1; epoch <= 40; epoch++) {
            due.is("epoch", x.epoch(), epoch);
        }
        due.is("no epoch more", x.epoch(), STATE);
        due.is("present", x.count(1), 40);
        due.is("blocks", x.count(2), 41);
        due.is("votes of the leaders", x.count(5), 40);
    }

    private static void sixtyBlocks() {
        StreamChain x = new StreamChain(4);
        x.fall(0);
        for (int made = 1; made <= 60; made++) {
            due.is("propose", x.propose(0, made - 1, 40, made, 0), made);
        }
        due.is("one more", x.propose(0, 0, 40, 0, 0), StreamChain.FULL);
        due.is("STATE ahead of FULL", x.propose(1, 0, 1, 0, 0), STATE);
        due.is("BAD ahead of FULL", x.propose(0, 61, 40, 0, 0), BAD);
        due.is("blocks", x.count(2), 61);
        due.is("height of the last", x.about(60, 3), 60);
        due.is("epoch of a TRUE leader", x.epoch(), StreamChain.FULL);
        due.is("none has begun", x.count(1), 0);
        due.is("so it can be led", x.lead(1, 0), 1);
        due.is("epoch of a FALSE leader", x.epoch(), 1);
        due.is("present", x.count(1), 1);
        for (int epoch = 2; epoch <= 40; epoch++) {
            x.lead(epoch, 0);
            x.epoch();
        }
        due.is("STATE when all have begun", x.epoch(), STATE);
        due.is("the last one passed to all", x.pass(0, 60, 15), 3);
        due.is("it comes", x.bring(60, 3), 1);
        due.is("it is there", x.seen(3, 60), 1);
        due.is("a vote for it", x.lie(0, 60, 15), 3);
        due.is("all come", x.settle(), 5);
    }

    private static void bringRefuses() {
        StreamChain x = new StreamChain(4);
        x.epoch();
        int[] noBlocks = {Integer.MIN_VALUE, -1, 2, 60, 61, Integer.MAX_VALUE};
        for (int block : noBlocks) {
            due.is("bring(" + block + ", 0)", x.bring(block, 0), BAD);
        }
        int[] noNodes = {Integer.MIN_VALUE, -1, 4, Integer.MAX_VALUE};
        for (int node : noNodes) {
            due.is("bring(1, " + node + ")", x.bring(1, node), BAD);
        }
        due.is("to the one that has it", x.bring(1, 1), STATE);
        due.is("the first block", x.bring(0, 0), STATE);
        due.is("nothing came", x.count(6), 0);
        due.is("it comes", x.bring(1, 0), 1);
        due.is("not again", x.bring(1, 0), STATE);
        due.is("one came", x.count(6), 1);
    }

    private static void bringVoteRefuses() {
        StreamChain x = new StreamChain(4);
        x.epoch();
        int[] noBlocks = {Integer.MIN_VALUE, -1, 2, 60, 61, Integer.MAX_VALUE};
        for (int block : noBlocks) {
            due.is("bringVote(1, " + block + ", 0)", x.bringVote(1, block, 0), BAD);
        }
        int[] noNodes = {Integer.MIN_VALUE, -1, 4, Integer.MAX_VALUE};
        for (int node : noNodes) {
            due.is("bringVote(1, 1, " + node + ")", x.bringVote(1, 1, node), BAD);
            due.is("bringVote(" + node + ", 1, 0)", x.bringVote(node, 1, 0), BAD);
        }
        due.is("to itself", x.bringVote(1, 1, 1), STATE);
        due.is("of one that did not vote", x.bringVote(0, 1, 2), STATE);
        due.is("of one that did not vote, to itself", x.bringVote(2, 1, 2), STATE);
        due.is("for the first block", x.bringVote(1, 0, 0), STATE);
        due.is("it comes", x.bringVote(1, 1, 0), 1);
        due.is("not again", x.bringVote(1, 1, 0), STATE);
        due.is("one came", x.count(6), 1);
        due.is("a vote without its proposal", x.votes(0, 1), 1);
        due.is("the block is nothing to it", x.seen(0, 1), 0);
    }

    private static void bringSpreads() {
        StreamChain x = new StreamChain(4);
        x.fall(0);
        due.is("block of epoch 4 to node 1", x.propose(0, 0, 4, 0, 2), 1);
        due.is("it is not under way to 2", x.bring(1, 2), STATE);
        due.is("a vote to node 1", x.lie(0, 1, 2), 1);
        due.is("it is not under way to 3", x.bringVote(0, 1, 3), STATE);
        due.is("under way", x.count(4), 2);
        due.is("the proposal comes", x.bring(1, 1), 1);
        due.is("and is under way to 2 and 3", x.count(4), 3);
        due.is("the vote comes", x.bringVote(0, 1, 1), 1);
        due.is("and is under way to 2 and 3", x.count(4), 4);
        due.is("not to its maker", x.bring(1, 0), STATE);
        due.is("to 2", x.bring(1, 2), 1);
        due.is("to 3", x.bringVote(0, 1, 3), 1);
    }

    private static void flowInItsOrder() {
        StreamChain x = new StreamChain(4);
        x.fall(0);
        x.fall(1);
        x.fall(2);
        x.lead(2, 0);
        x.epoch();
        due.is("block 1 of epoch 1", x.propose(1, 0, 1, 0, 0), 1);
        due.is("block 2 of epoch 2 on it", x.propose(0, 1, 2, 0, 8), 2);
        due.is("block 3 of epoch 2 on the first", x.propose(0, 0, 2, 0, 8), 3);
        x.epoch();
        x.lie(2, 2, 8);
        x.pass(1, 1, 8);
        for (int node = 0; node < 3; node++) {
            x.lie(node, 1, 8);
        }
        due.is("flow", x.flow(3), 7);
        due.is("2 came ahead of 3, when 1 was notarized", x.voted(3, 2), 2);
        due.is("1 was of an epoch that was over", x.voted(3, 1), NONE);
        due.is("letters that came", x.count(6), 7);
    }

    private static void flowOfOneNodeAlone() {
        StreamChain x = new StreamChain(4);
        x.epoch();
        int[] noNodes = {Integer.MIN_VALUE, -1, 4, Integer.MAX_VALUE};
        for (int node : noNodes) {
            due.is("flow(" + node + ")", x.flow(node), BAD);
        }
        due.is("flow(0)", x.flow(0), 2);
        due.is("flow(0) again", x.flow(0), 0);
        due.is("under way: 2 to 2, 2 to 3, the vote of 0 to three", x.count(4), 7);
        due.is("flow(1)", x.flow(1), 1);
        due.is("flow(2)", x.flow(2), 3);
        due.is("flow(3)", x.flow(3), 4);
        due.is("votes that 3 has", x.votes(3, 1), 4);
    }

    private static void settleComesToAnEnd() {
        for (int n = 4; n <= 10; n++) {
            StreamChain x = new StreamChain(n);
            x.epoch();
            due.is("settle", x.settle(), (n + 1) * (n - 1));
            due.is("nothing is under way", x.count(4), 0);
            due.is("all voted", x.count(5), n);
            due.is("came", x.count(6), (n + 1) * (n - 1));
            due.is("settle again", x.settle(), 0);
        }
    }

    private static void settleGoesByNumbers() {
        StreamChain x = new StreamChain(5);
        x.fall(4);
        due.is("block 1 to node 3", x.propose(4, 0, 4, 0, 8), 1);
        due.is("block 2 to node 0", x.propose(4, 0, 4, 0, 1), 2);
        x.lead(1, 4);
        x.lead(2, 4);
        x.lead(3, 4);
        for (int epoch = 1; epoch <= 4; epoch++) {
            x.epoch();
        }
        x.settle();
        due.is("0 had 2 first", x.voted(0, 4), 2);
        due.is("1 got it of 0", x.voted(1, 4), 2);
        due.is("2 got it of 0", x.voted(2, 4), 2);
        due.is("3 had both at once", x.voted(3, 4), 1);
    }

    /** Node 0 is FALSE and leads epoch 1. */
    private static StreamChain withFalseLeader() {
        StreamChain x = new StreamChain(4);
        x.fall(0);
        x.lead(1, 0);
        return x;
    }

    private static void voteForTheFirstThatCame() {
        StreamChain x = withFalseLeader();
        x.epoch();
        x.propose(0, 0, 1, 0, 14);
        x.propose(0, 0, 1, 0, 14);
        due.is("2 comes to 1", x.bring(2, 1), 1);
        due.is("1 comes to 1", x.bring(1, 1), 1);
        due.is("it voted for 2", x.voted(1, 1), 2);
        due.is("not for 1", x.votes(1, 1), 0);
        due.is("flow", x.flow(2), 3);
        due.is("that one voted for 1", x.voted(2, 1), 1);
        due.is("votes given", x.count(5), 2);
    }

    private static void firstThatCameMayWait() {
        StreamChain x = withFalseLeader();
        x.lead(2, 0);
        due.is("1 of epoch 1, to none", x.propose(0, 0, 1, 0, 0), 1);
        due.is("2 of epoch 2 on it", x.propose(0, 1, 2, 0, 14), 2);
        due.is("3 of epoch 2 on the first", x.propose(0, 0, 2, 0, 14), 3);
        x.epoch();
        x.epoch();
        x.bring(2, 1);
        due.is("2 is not known", x.voted(1, 2), NONE);
        x.bring(3, 1);
        due.is("3 came later, so there is no vote", x.voted(1, 2), NONE);
        x.pass(0, 1, 2);
        x.bring(1, 1);
        due.is("2 is known now", x.seen(1, 2), 2);
        due.is("but its parent is not notarized", x.voted(1, 2), NONE);
        x.fall(2);
        x.fall(3);
        for (int node = 0; node < 4; node++) {
            x.lie(node, 1, 2);
        }
        x.bringVote(0, 1, 1);
        x.bringVote(2, 1, 1);
        due.is("two votes of four are too few", x.voted(1, 2), NONE);
        x.bringVote(3, 1, 1);
        due.is("it is notarized now", x.seen(1, 1), 3);
        due.is("so it votes for 2", x.voted(1, 2), 2);
    }

    private static void proposalAheadOfItsEpoch() {
        StreamChain x = withFalseLeader();
        x.propose(0, 0, 1, 0, 6);
        x.bring(1, 1);
        due.is("known ahead", x.seen(1, 1), 2);
        due.is("no vote ahead", x.count(5), 0);
        x.epoch();
        due.is("a vote as it begins", x.voted(1, 1), 1);
        due.is("of that one alone", x.count(5), 1);
        due.is("under way: 2 to 2, 2 to 3, the vote to the maker", x.count(4), 5);
    }

    private static void proposalAfterItsEpoch() {
        StreamChain x = withFalseLeader();
        x.lead(2, 0);
        x.epoch();
        x.epoch();
        x.propose(0, 0, 1, 0, 14);
        x.settle();
        due.is("its epoch is over", x.count(5), 0);
        due.is("and is known all the same", x.seen(3, 1), 2);
    }

    private static void noVoteBelowReach() {
        StreamChain x = new StreamChain(4);
        x.epoch();
        x.settle();
        x.fall(2);
        x.epoch();
        due.is("on the first block", x.propose(2, 0, 2, 0, 15), 2);
        x.settle();
        due.is("known", x.seen(0, 2), 2);
        due.is("no vote", x.voted(0, 2), NONE);
        due.is("on the tip", x.propose(2, 1, 2, 0, 15), 3);
        x.settle();
        due.is("which came later", x.voted(0, 2), NONE);
    }

    private static void noVoteForWhatIsNotKnown() {
        StreamChain x = withFalseLeader();
        x.lead(2, 0);
        x.propose(0, 0, 2, 0, 0);
        x.propose(0, 1, 1, 0, 14);
        x.epoch();
        x.flow(1);
        due.is("it has it", x.seen(1, 2), 1);
        due.is("no vote", x.voted(1, 1), NONE);
    }

    private static void noVoteOnWhatIsNotNotarized() {
        StreamChain x = new StreamChain(4);
        x.epoch();
        x.settle();
        x.fall(1);
        x.lead(2, 1);
        due.is("beside the tip", x.propose(1, 0, 1, 0, 15), 2);
        due.is("on that", x.propose(1, 2, 2, 0, 15), 3);
        x.epoch();
        x.settle();
        due.is("known, and its parent is as high as REACH", x.seen(0, 3) * 10 + x.reach(0, 0), 21);
        due.is("no vote", x.count(5), 4);
    }

    private static void voteOnceAParentIsNotarized() {
        StreamChain x = new StreamChain(4);
        x.epoch();
        x.flow(0);
        x.flow(3);
        x.flow(1);
        due.is("3 votes of 4", x.seen(1, 1), 3);
        x.lead(2, 1);
        x.epoch();
        due.is("on block 1", x.about(2, 0), 1);
        x.bring(2, 2);
        due.is("its parent is not there", x.seen(2, 2), 1);
        x.bring(1, 2);
        due.is("known", x.seen(2, 2), 2);
        x.bringVote(0, 1, 2);
        x.bringVote(3, 1, 2);
        due.is("not yet", x.voted(2, 2), NONE);
        x.bringVote(1, 1, 2);
        due.is("the last vote lets it vote", x.voted(2, 2), 2);
        due.is("and not in epoch 1", x.voted(2, 1), NONE);
    }
}
