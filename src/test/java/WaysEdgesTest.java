/** The sentences of "Terms" on what nodes do, as an epoch begins, as they look and as they lie. */
public final class WaysEdgesTest {
    private static final Due due = new Due("WaysEdgesTest");
    private static final int STATE = StreamChain.STATE;
    private static final int NONE = StreamChain.NONE;

    public static void main(String[] args) {
        leaderIfItIsTrue();
        makesOnItsTip();
        allWishesThatItHolds();
        wishesThatNoBlockOfTheChainHas();
        leaderHasItsProposal();
        looksAsAnEpochBegins();
        looksWheneverALetterComes();
        falseOnesDoNotLook();
        noEpochIsPresentAtFirst();
        hasNotVotedInThePresentEpoch();
        blocksOfThisEpoch();
        theOneThatCameFirst();
        blockThatIsKnown();
        parentThatIsNotarized();
        parentAsHighAsReach();
        hasThatVote();
        falseAtAnyTime();
        falseAsItIsTold();
        falseHasWhatItMakes();
        justToThoseToWhomItIsTold();
        tillATrueOneHasIt();
        due.end();
    }

    private static void leaderIfItIsTrue() {
        due.sentence("Terms", "its LEADER, if it is TRUE, makes a BLOCK");
        StreamChain x = Scenes.withFalse(4, 1);
        due.is("epoch of a FALSE one", x.epoch(), 1);
        due.is("no block", x.count(2), 1);
        due.is("no letter", x.count(4), 0);
        due.is("epoch of a TRUE one", x.epoch(), 2);
        due.is("a block", x.count(2), 2);
        due.is("of that epoch", x.about(1, 1), 2);
    }

    private static void makesOnItsTip() {
        due.sentence("Terms", "makes a BLOCK on its TIP");
        StreamChain x = new StreamChain(4);
        x.epoch();
        x.flow(0);
        x.flow(3);
        x.flow(1);
        due.is("TIP of node 1", x.reach(1, 1), 1);
        due.is("TIP of node 2", x.reach(2, 1), 0);
        x.epoch();
        due.is("of node 2, on its own TIP", x.about(2, 0), 0);
        x.lead(3, 1);
        x.epoch();
        due.is("of node 1, on its own TIP", x.about(3, 0), 1);
    }

    private static void allWishesThatItHolds() {
        due.sentence("Terms", "with all WISHES that it holds");
        StreamChain x = new StreamChain(4);
        x.wish(0, 5);
        for (int wish = 0; wish < 32; wish++) {
            x.wish(2, wish);
        }
        x.wish(3, 0);
        x.wish(3, 31);
        x.epoch();
        due.is("it holds none", x.about(1, 2), 0);
        x.epoch();
        due.is("it holds all", x.about(2, 2), -1);
        x.epoch();
        due.is("it holds the least and the greatest", x.about(3, 2), 1 << 31 | 1);
        x.wish(3, 7);
        due.is("a wish that comes too late", x.about(3, 2), 1 << 31 | 1);
    }

    private static void wishesThatNoBlockOfTheChainHas() {
        due.sentence("Terms", "and that no BLOCK of the TIP's CHAIN has in its LOAD");
        StreamChain x = new StreamChain(4);
        x.wish(1, 31);
        x.wish(2, 4);
        int[] ofThree = {31, 4, 0};
        for (int wish : ofThree) {
            x.wish(3, wish);
        }
        x.wish(0, 31);
        x.wish(0, 4);
        for (int epoch = 1; epoch <= 4; epoch++) {
            x.epoch();
            x.settle();
        }
        due.is("parent of block 3", x.about(3, 0), 2);
        due.is("less what the TIP and its parent have", x.about(3, 2), 1);
        due.is("all of it is in the chain", x.about(4, 2), 0);
        StreamChain y = new StreamChain(4);
        y.wish(1, 31);
        y.wish(2, 31);
        y.epoch();
        y.epoch();
        due.is("a block beside the chain has it", y.about(2, 2), 1 << 31);
    }

    private static void leaderHasItsProposal() {
        due.sentence("Terms", "and HAS its PROPOSAL");
        StreamChain x = new StreamChain(4);
        x.epoch();
        due.is("seen", x.seen(1, 1), 2);
        due.is("it is not under way to it", x.bring(1, 1), STATE);
        due.is("no letter came by that", x.count(6), 0);
        due.is("it is under way to another", x.bring(1, 0), 1);
    }

    private static void looksAsAnEpochBegins() {
        due.sentence("Terms", "(as an EPOCH begins: all TRUE ones, by numbers) LOOKS");
        StreamChain x = Scenes.withFalse(5, 0);
        x.lead(1, 0);
        x.propose(0, 0, 1, 0, 30);
        for (int node = 1; node < 4; node++) {
            x.bring(1, node);
        }
        x.fall(2);
        due.is("none voted ahead of the epoch", x.count(5), 0);
        x.epoch();
        due.is("1 has it", x.voted(1, 1), 1);
        due.is("2 is FALSE", x.voted(2, 1), NONE);
        due.is("3 has it", x.voted(3, 1), 1);
        due.is("4 has it not", x.voted(4, 1), NONE);
        due.is("votes", x.count(5), 2);
    }

    private static void looksWheneverALetterComes() {
        due.sentence("Terms", "whenever a TRUE NODE comes to HAVE a LETTER, that NODE");
        StreamChain x = new StreamChain(4);
        x.epoch();
        x.bringVote(1, 1, 0);
        due.is("a vote alone does not do", x.voted(0, 1), NONE);
        x.bring(1, 0);
        due.is("the proposal does", x.voted(0, 1), 1);
        due.is("that node alone", x.count(5), 2);
    }

    private static void falseOnesDoNotLook() {
        due.sentence("Terms", "whenever a TRUE NODE comes to HAVE a LETTER, that NODE");
        StreamChain x = Scenes.withFalse(4, 0);
        x.epoch();
        x.settle();
        due.is("it has the block", x.seen(0, 1), 3);
        due.is("it has the votes of the others", x.votes(0, 1), 3);
        due.is("it did not vote", x.voted(0, 1), NONE);
        due.is("votes given", x.count(5), 3);
    }

    private static void noEpochIsPresentAtFirst() {
        due.sentence("Terms", "one of them is present (0: none has begun)");
        StreamChain x = Scenes.withFalse(4, 0);
        x.propose(0, 0, 4, 0, 15);
        x.settle();
        due.is("all have it", x.seen(1, 1) + x.seen(2, 1) + x.seen(3, 1), 6);
        due.is("none votes", x.count(5), 0);
    }

    private static void hasNotVotedInThePresentEpoch() {
        due.sentence("Terms", "if it has not voted in the present EPOCH");
        StreamChain x = Scenes.withFalse(4, 0);
        x.lead(1, 0);
        x.epoch();
        x.propose(0, 0, 1, 0, 14);
        x.propose(0, 0, 1, 0, 14);
        x.settle();
        for (int node = 1; node < 4; node++) {
            due.is("it voted", x.voted(node, 1), 1);
        }
        due.is("once each", x.count(5), 3);
        due.is("none voted for the other one", x.votes(1, 2), 0);
        x.epoch();
        due.is("and again in the next one", x.voted(2, 2), 3);
        due.is("the first vote stays", x.voted(2, 1), 1);
    }

    private static void blocksOfThisEpoch() {
        due.sentence("Terms", "of the PROPOSALS of BLOCKS of this EPOCH that it HAS");
        StreamChain x = Scenes.withFalse(4, 0);
        for (int epoch = 1; epoch <= 3; epoch++) {
            x.lead(epoch, 0);
        }
        Scenes.begin(x, 2);
        x.propose(0, 0, 1, 0, 14);
        x.propose(0, 0, 3, 0, 14);
        x.settle();
        due.is("of the one ahead and the next one: no vote", x.count(5), 0);
        x.propose(0, 0, 2, 0, 14);
        x.settle();
        due.is("of this one", x.voted(1, 2), 3);
        due.is("not in the one ahead", x.voted(1, 1), NONE);
        due.is("not yet in the next one", x.voted(1, 3), NONE);
        x.epoch();
        due.is("its parent is lower than REACH by now", x.voted(1, 3), NONE);
    }

    private static void theOneThatCameFirst() {
        due.sentence("Terms", "the one that came first to it");
        StreamChain x = Scenes.withFalse(4, 0);
        x.lead(1, 0);
        x.propose(0, 0, 1, 0, 14);
        x.propose(0, 0, 1, 0, 14);
        x.propose(0, 0, 1, 0, 14);
        x.bring(3, 1);
        x.bring(1, 1);
        x.bring(2, 2);
        x.bring(3, 2);
        x.epoch();
        due.is("3 came first to node 1", x.voted(1, 1), 3);
        due.is("2 came first to node 2", x.voted(2, 1), 2);
        x.flow(3);
        due.is("1 came first to node 3", x.voted(3, 1), 1);
    }

    private static void blockThatIsKnown() {
        due.sentence("Terms", "is of a BLOCK that is KNOWN to it");
        StreamChain x = Scenes.underFalseOnes();
        x.propose(0, 0, 5, 0, 0);
        x.propose(0, 1, 1, 0, 32);
        x.epoch();
        x.bring(2, 5);
        Scenes.vote(x, 1, 5);
        due.is("it has it", x.seen(5, 2), 1);
        due.is("no vote", x.voted(5, 1), NONE);
        Scenes.show(x, 1, 5);
        due.is("known, on what is notarized", x.voted(5, 1), 2);
    }

    private static void parentThatIsNotarized() {
        due.sentence("Terms", "whose PARENT is NOTARIZED to it");
        StreamChain x = Scenes.underFalseOnes();
        x.propose(0, 0, 5, 0, 32);
        x.propose(0, 1, 1, 0, 32);
        Scenes.notarize(x, 0, 6, 0, 5);
        x.epoch();
        x.flow(5);
        due.is("it is known", x.seen(5, 2), 2);
        due.is("its parent is as high as REACH", x.about(1, 3) - x.reach(5, 0), 0);
        due.is("but is known alone", x.seen(5, 1), 2);
        due.is("no vote", x.voted(5, 1), NONE);
        for (int voter = 0; voter < 3; voter++) {
            x.lie(voter, 1, 32);
            x.bringVote(voter, 1, 5);
        }
        due.is("a vote is missing", x.voted(5, 1), NONE);
        x.lie(3, 1, 32);
        x.bringVote(3, 1, 5);
        due.is("now it is notarized", x.voted(5, 1), 2);
    }

    private static void parentAsHighAsReach() {
        due.sentence("Terms", "and as high as its REACH");
        StreamChain x = Scenes.underFalseOnes();
        Scenes.notarize(x, 0, 20, 0, 5);
        Scenes.notarize(x, 0, 10, 0, 5);
        x.epoch();
        x.propose(0, 0, 1, 0, 32);
        x.flow(5);
        due.is("on the first one, lower by 1", x.voted(5, 1), NONE);
        x.epoch();
        x.propose(0, 2, 2, 0, 32);
        x.flow(5);
        due.is("on one as high, though not its TIP", x.voted(5, 2), 4);
        due.is("TIP", x.reach(5, 1), 1);
    }

    private static void hasThatVote() {
        due.sentence("Terms", "it votes for that: it HAS that VOTE");
        StreamChain x = new StreamChain(4);
        x.epoch();
        x.bring(1, 2);
        due.is("its vote alone", x.votes(2, 1), 1);
        due.is("is not under way to it", x.bringVote(2, 1, 2), STATE);
        due.is("no letter more came", x.count(6), 1);
        x.flow(0);
        due.is("and that of two others: notarized by its own", x.seen(0, 1), 3);
        due.is("votes", x.votes(0, 1), 3);
    }

    private static void falseAtAnyTime() {
        due.sentence("Terms", "A FALSE NODE makes BLOCKS and VOTES as it is told to, at any time");
        StreamChain x = Scenes.withFalse(4, 0);
        due.is("ahead of all epochs, of the last", x.propose(0, 0, 40, 0, 0), 1);
        due.is("a vote", x.lie(0, 1, 2), 1);
        Scenes.begin(x, 40);
        int made = x.count(2);
        due.is("when the last has begun, of an early one", x.propose(0, 0, 4, 0, 0), made);
        due.is("a vote", x.lie(0, made, 2), 1);
    }

    private static void falseAsItIsTold() {
        due.sentence("Terms", "A FALSE NODE makes BLOCKS and VOTES as it is told to, at any time");
        StreamChain x = Scenes.withFalse(4, 0, 1);
        due.is("of epoch 40", x.propose(0, 0, 40, 0, 0), 1);
        due.is("of epoch 4 on it", x.propose(0, 1, 4, 0, 0), 2);
        due.is("of the same epoch on that", x.propose(0, 2, 4, 0, 0), 3);
        due.is("on what it has not", x.propose(1, 3, 1, 0, 0), 4);
        due.is("it just has it", x.seen(1, 4), 1);
        for (int block = 1; block <= 4; block++) {
            due.is("a vote for each", x.lie(1, block, 8), 1);
        }
        due.is("votes for what it has not", x.votes(1, 1), 1);
        due.is("and which is nothing to it", x.seen(1, 1), 0);
    }

    private static void falseHasWhatItMakes() {
        due.sentence("Terms", "it HAS what it makes");
        StreamChain x = Scenes.withFalse(4, 0);
        x.propose(0, 0, 4, 0, 1);
        due.is("the proposal", x.seen(0, 1), 2);
        due.is("it is not under way to it", x.bring(1, 0), STATE);
        due.is("the vote", x.lie(0, 1, 1), 0);
        due.is("it has it", x.votes(0, 1), 1);
        due.is("once, if it votes again", x.lie(0, 1, 1) + x.votes(0, 1), 1);
        due.is("nothing is under way", x.count(4), 0);
    }

    private static void justToThoseToWhomItIsTold() {
        due.sentence("Terms", "it is UNDER WAY just to those to whom it is told to send it");
        for (int to = 0; to < 16; to++) {
            // All are FALSE, so that none sends on what comes to it.
            StreamChain x = Scenes.withFalse(4, 0, 1, 2, 3);
            x.propose(0, 0, 4, 0, to);
            x.lie(0, 1, to);
            due.is("under way by to = " + to, x.count(4), 2 * Integer.bitCount(to & 14));
            for (int node = 0; node < 4; node++) {
                int want = node != 0 && (to >> node & 1) == 1 ? 1 : STATE;
                due.is("the proposal to " + node + " by to = " + to, x.bring(1, node), want);
                due.is("the vote to " + node + " by to = " + to, x.bringVote(0, 1, node), want);
            }
        }
    }

    private static void tillATrueOneHasIt() {
        due.sentence("Terms", "till a TRUE one HAS it");
        StreamChain x = Scenes.withFalse(5, 0, 1);
        x.propose(0, 0, 5, 0, 2);
        x.lie(0, 1, 2);
        x.flow(1);
        due.is("a FALSE one has both", x.seen(1, 1) * 10 + x.votes(1, 1), 21);
        due.is("they go no further", x.count(4), 0);
        x.pass(1, 1, 4);
        due.is("the proposal is told to go to 2", x.count(4), 1);
        x.bring(1, 2);
        due.is("that is TRUE: to 3 and 4", x.count(4), 2);
        due.is("the vote is not", x.bringVote(0, 1, 3), STATE);
        x.lie(0, 1, 8);
        x.bringVote(0, 1, 3);
        due.is("now it goes to 2 and 4 as well", x.count(4), 4);
        due.is("it comes to 2", x.bringVote(0, 1, 2), 1);
        due.is("it comes to 4", x.bringVote(0, 1, 4), 1);
    }
}
