import java.util.ArrayList;
import java.util.List;
import java.util.function.Function;
import java.util.function.Supplier;
import java.util.function.ToIntFunction;

/**
 * The order of refusals, and that what is refused changes nothing: of two nets with the same past the
 * one gets a call that is refused, and then both have to answer all that can be asked in the same way.
 */
public final class RefusalsTest {
    private static final Due due = new Due("RefusalsTest");
    private static final int BAD = StreamChain.BAD;
    private static final int STATE = StreamChain.STATE;
    private static final int FULL = StreamChain.FULL;
    private static final int MIN = Integer.MIN_VALUE;
    private static final int MAX = Integer.MAX_VALUE;

    private static Supplier<StreamChain> scene;

    public static void main(String[] args) {
        badAheadOfState();
        badAheadOfFull();
        stateAheadOfFull();
        badThingsAhead();
        badLetters();
        badFalseOnes();
        badSights();
        stateThingsAhead();
        stateLetters();
        stateFalseOnes();
        stateWhenAllHaveBegun();
        full();
        due.end();
    }

    /**
     * Of four nodes 0 and 3 are FALSE; epoch 2 is present, which 3 leads. Block 1 is of node 1, the others
     * are of 3: 2 and 4 are of epoch 2, 3 is of epoch 7. 2 was sent to none, 4 and a vote for 2 to node 1.
     */
    private static StreamChain amid() {
        StreamChain x = new StreamChain(4);
        x.wish(1, 3);
        x.wish(2, 31);
        x.lead(5, 2);
        x.lead(2, 3);
        x.epoch();
        x.flow(0);
        x.bring(1, 3);
        x.fall(3);
        x.fall(0);
        x.epoch();
        x.propose(3, 1, 2, 9, 0);
        x.propose(3, 0, 7, -1, 5);
        x.bring(3, 2);
        x.propose(3, 1, 2, 0, 2);
        x.lie(3, 4, 4);
        x.lie(3, 2, 2);
        return x;
    }

    /** Of four nodes 3 is FALSE; 40 epochs have begun, and 60 blocks are made. */
    private static StreamChain over() {
        StreamChain x = new StreamChain(4);
        Scenes.begin(x, 40);
        x.fall(3);
        for (int i = 0; i < 20; i++) {
            x.propose(3, i, 39, i, 0);
        }
        return x;
    }

    private static List<Integer> sights(StreamChain x) {
        List<Integer> all = new ArrayList<>();
        for (int what = 0; what < 7; what++) {
            all.add(x.count(what));
        }
        all.add(x.agree());
        for (int block : someBlocks(x.count(2))) {
            for (int what = 0; what < 5; what++) {
                all.add(x.about(block, what));
            }
            for (int node = 0; node < 4; node++) {
                all.add(x.seen(node, block));
                all.add(x.votes(node, block));
            }
        }
        for (int node = 0; node < 4; node++) {
            for (int epoch = 1; epoch <= 40; epoch++) {
                all.add(x.voted(node, epoch));
            }
            for (int what = 0; what < 3; what++) {
                all.add(x.reach(node, what));
                all.add(x.ledger(node, what));
            }
        }
        return all;
    }

    private static List<Integer> settled(StreamChain x) {
        x.settle();
        return sights(x);
    }

    /** Calls whose answers tell what no sight does: letters by letters, who lies, wishes, leaders. */
    private static List<Integer> trials(StreamChain x) {
        List<Integer> all = new ArrayList<>();
        for (int block : someBlocks(x.count(2))) {
            for (int node = 0; node < 4; node++) {
                all.add(x.bring(block, node));
                for (int voter = 0; voter < 4; voter++) {
                    all.add(x.bringVote(voter, block, node));
                }
            }
        }
        for (int node = 0; node < 4; node++) {
            for (int wish = 0; wish < 32; wish++) {
                all.add(x.wish(node, wish));
            }
            all.add(x.fall(node));
        }
        for (int epoch = 1; epoch <= 40; epoch++) {
            all.add(x.lead(epoch, 0));
        }
        all.add(x.epoch());
        all.add(x.settle());
        all.add(x.count(2));
        return all;
    }

    /** The leaders of epochs that have begun tell themselves only by what they may make. */
    private static List<Integer> makings(StreamChain x) {
        List<Integer> all = new ArrayList<>();
        for (int node = 0; node < 4; node++) {
            x.fall(node);
            for (int epoch = 1; epoch <= 40; epoch++) {
                all.add(x.propose(node, 0, epoch, 0, 0));
            }
        }
        return all;
    }

    private static int[] someBlocks(int total) {
        if (total <= 6) {
            int[] all = new int[total];
            for (int block = 0; block < total; block++) {
                all[block] = block;
            }
            return all;
        }
        return new int[] {0, 1, 2, total - 3, total - 2, total - 1};
    }

    private static void refused(String call, ToIntFunction<StreamChain> told, int want) {
        due.is(call, told.applyAsInt(scene.get()), want);
        same(call, told, "that is seen", RefusalsTest::sights);
        same(call, told, "that comes of letters", RefusalsTest::settled);
        same(call, told, "that other calls tell", RefusalsTest::trials);
        same(call, told, "that is made", RefusalsTest::makings);
    }

    private static void same(String call, ToIntFunction<StreamChain> told, String what,
            Function<StreamChain, List<Integer>> asked) {
        StreamChain x = scene.get();
        told.applyAsInt(x);
        due.holds(call + " changes nothing " + what, asked.apply(x).equals(asked.apply(scene.get())));
    }

    private static void order(String kinds) {
        due.sentence("Terms, for " + kinds, "Refusals are answers, the first of these that fits");
    }

    private static void badAheadOfState() {
        order("BAD ahead of STATE");
        StreamChain x = amid();
        due.is("lead of one that has begun, of no node", x.lead(2, 4), BAD);
        due.is("lead of one that has a block, of no node", x.lead(7, -1), BAD);
        due.is("bring of no block to one that has all", x.bring(5, 3), BAD);
        due.is("bring of one that is not under way, to no node", x.bring(2, 4), BAD);
        due.is("bringVote that none gave, of no node", x.bringVote(4, 2, 0), BAD);
        due.is("bringVote for no block, to its giver", x.bringVote(1, 5, 1), BAD);
        due.is("bringVote that none gave, to no node", x.bringVote(0, 2, 4), BAD);
        due.is("propose of a TRUE one on no block", x.propose(1, 5, 9, 0, 0), BAD);
        due.is("propose of a TRUE one of no epoch", x.propose(1, 0, 41, 0, 0), BAD);
        due.is("propose of a TRUE one to no node", x.propose(1, 0, 9, 0, 16), BAD);
        due.is("propose of one that does not lead, to no node", x.propose(3, 0, 4, 0, -1), BAD);
        due.is("lie of a TRUE one for the first one", x.lie(1, 0, 0), BAD);
        due.is("lie of a TRUE one for no block", x.lie(1, 5, 0), BAD);
        due.is("lie of a TRUE one to no node", x.lie(1, 1, 16), BAD);
        due.is("pass of a TRUE one of the first one", x.pass(1, 0, 0), BAD);
        due.is("pass of a TRUE one of no block", x.pass(1, 5, 0), BAD);
        due.is("pass of a TRUE one to no node", x.pass(1, 1, 16), BAD);
        due.is("pass of one that has it not, to no node", x.pass(0, 2, -1), BAD);
    }

    private static void badAheadOfFull() {
        order("BAD ahead of FULL");
        StreamChain x = Scenes.full();
        due.is("propose on no block", x.propose(0, 61, 40, 0, 0), BAD);
        due.is("propose of no node", x.propose(4, 0, 40, 0, 0), BAD);
        due.is("propose of no epoch", x.propose(0, 0, 0, 0, 0), BAD);
        due.is("propose to no node", x.propose(0, 0, 40, 0, 16), BAD);
        due.is("propose of a TRUE one to no node", x.propose(1, 0, 1, 0, 16), BAD);
    }

    private static void stateAheadOfFull() {
        order("STATE ahead of FULL");
        StreamChain x = Scenes.full();
        due.is("propose of a TRUE one", x.propose(1, 0, 1, 0, 0), STATE);
        due.is("propose of one that does not lead", x.propose(0, 0, 1, 0, 0), STATE);
        due.is("propose", x.propose(0, 0, 40, 0, 0), FULL);
        due.is("epoch", x.epoch(), FULL);
        due.is("epoch when all have begun", over().epoch(), STATE);
    }

    private static void nothing(String kind) {
        due.sentence("Terms, for " + kind, "What is refused changes nothing.");
    }

    private static void badThingsAhead() {
        nothing("BAD: lead, fall, wish");
        scene = RefusalsTest::amid;
        int[] noEpochs = {MIN, -1, 0, 41, MAX};
        for (int epoch : noEpochs) {
            refused("lead(" + epoch + ", 1)", x -> x.lead(epoch, 1), BAD);
        }
        int[] noNodes = {MIN, -1, 4, MAX};
        for (int node : noNodes) {
            refused("lead(9, " + node + ")", x -> x.lead(9, node), BAD);
            refused("fall(" + node + ")", x -> x.fall(node), BAD);
            refused("wish(" + node + ", 0)", x -> x.wish(node, 0), BAD);
        }
        // 35 and -29 are 3 by their last five bits, 64 is 0.
        int[] noWishes = {MIN, -29, -1, 32, 35, 64, MAX};
        for (int wish : noWishes) {
            refused("wish(0, " + wish + ")", x -> x.wish(0, wish), BAD);
        }
    }

    private static void badLetters() {
        nothing("BAD: bring, bringVote, flow");
        scene = RefusalsTest::amid;
        int[] noBlocks = {MIN, -1, 5, 61, 65, MAX};
        for (int block : noBlocks) {
            refused("bring(" + block + ", 0)", x -> x.bring(block, 0), BAD);
            refused("bringVote(1, " + block + ", 2)", x -> x.bringVote(1, block, 2), BAD);
        }
        int[] noNodes = {MIN, -1, 4, 33, MAX};
        for (int node : noNodes) {
            refused("bring(1, " + node + ")", x -> x.bring(1, node), BAD);
            refused("bringVote(1, 1, " + node + ")", x -> x.bringVote(1, 1, node), BAD);
            refused("bringVote(" + node + ", 1, 2)", x -> x.bringVote(node, 1, 2), BAD);
            refused("flow(" + node + ")", x -> x.flow(node), BAD);
        }
    }

    private static void badFalseOnes() {
        nothing("BAD: propose, lie, pass");
        scene = RefusalsTest::amid;
        int[] noNodes = {MIN, -1, 4, MAX};
        for (int node : noNodes) {
            refused("propose of " + node, x -> x.propose(node, 0, 7, 0, 7), BAD);
            refused("lie of " + node, x -> x.lie(node, 1, 7), BAD);
            refused("pass of " + node, x -> x.pass(node, 2, 7), BAD);
        }
        int[] noBlocks = {MIN, -1, 5, 61, MAX};
        for (int block : noBlocks) {
            refused("propose on " + block, x -> x.propose(3, block, 7, 0, 7), BAD);
            refused("lie for " + block, x -> x.lie(3, block, 7), BAD);
            refused("pass of block " + block, x -> x.pass(3, block, 7), BAD);
        }
        refused("lie for the first one", x -> x.lie(3, 0, 7), BAD);
        refused("pass of the first one", x -> x.pass(3, 0, 7), BAD);
        int[] noEpochs = {MIN, -1, 0, 41, MAX};
        for (int epoch : noEpochs) {
            refused("propose of epoch " + epoch, x -> x.propose(3, 0, epoch, 0, 7), BAD);
        }
        int[] noSets = {MIN, -1, 16, 23, MAX};
        for (int to : noSets) {
            refused("propose to " + to, x -> x.propose(3, 0, 7, 0, to), BAD);
            refused("lie to " + to, x -> x.lie(3, 3, to), BAD);
            refused("pass to " + to, x -> x.pass(3, 2, to), BAD);
        }
    }

    private static void badSights() {
        nothing("BAD: about, seen, votes, voted, reach, ledger, count");
        scene = RefusalsTest::amid;
        int[] far = {MIN, -1, 41, MAX};
        for (int number : far) {
            refused("about(" + number + ", 0)", x -> x.about(number, 0), BAD);
            refused("about(1, " + number + ")", x -> x.about(1, number), BAD);
            refused("seen(" + number + ", 1)", x -> x.seen(number, 1), BAD);
            refused("seen(0, " + number + ")", x -> x.seen(0, number), BAD);
            refused("votes(" + number + ", 1)", x -> x.votes(number, 1), BAD);
            refused("votes(0, " + number + ")", x -> x.votes(0, number), BAD);
            refused("voted(" + number + ", 1)", x -> x.voted(number, 1), BAD);
            refused("voted(0, " + number + ")", x -> x.voted(0, number), BAD);
            refused("reach(" + number + ", 0)", x -> x.reach(number, 0), BAD);
            refused("reach(0, " + number + ")", x -> x.reach(0, number), BAD);
            refused("ledger(" + number + ", 0)", x -> x.ledger(number, 0), BAD);
            refused("count(" + number + ")", x -> x.count(number), BAD);
        }
    }

    private static void stateThingsAhead() {
        nothing("STATE: lead");
        scene = RefusalsTest::amid;
        refused("lead of one that is over", x -> x.lead(1, 3), STATE);
        refused("lead of the present one", x -> x.lead(2, 0), STATE);
        refused("lead of one that has a block", x -> x.lead(7, 0), STATE);
        refused("lead by the one that leads it", x -> x.lead(7, 3), STATE);
    }

    private static void stateLetters() {
        nothing("STATE: bring, bringVote");
        scene = RefusalsTest::amid;
        refused("bring of the first one", x -> x.bring(0, 0), STATE);
        refused("bring to its maker", x -> x.bring(1, 1), STATE);
        refused("bring to one to which it came", x -> x.bring(1, 0), STATE);
        refused("bring of what was sent to none", x -> x.bring(2, 1), STATE);
        refused("bringVote to its giver", x -> x.bringVote(1, 1, 1), STATE);
        refused("bringVote to one to which it came", x -> x.bringVote(1, 1, 0), STATE);
        refused("bringVote that none gave", x -> x.bringVote(2, 1, 0), STATE);
        refused("bringVote for the first one", x -> x.bringVote(1, 0, 0), STATE);
        refused("bringVote that was sent to others", x -> x.bringVote(3, 2, 0), STATE);
    }

    private static void stateFalseOnes() {
        nothing("STATE: propose, lie, pass");
        scene = RefusalsTest::amid;
        refused("propose of a TRUE leader", x -> x.propose(2, 0, 5, 0, 15), STATE);
        refused("propose of a FALSE one that does not lead", x -> x.propose(3, 0, 5, 0, 15), STATE);
        refused("lie of a TRUE one", x -> x.lie(2, 2, 15), STATE);
        refused("lie of a TRUE one that voted", x -> x.lie(1, 1, 15), STATE);
        refused("pass of a TRUE one that has it", x -> x.pass(2, 3, 15), STATE);
        refused("pass of a FALSE one that has it not", x -> x.pass(0, 2, 15), STATE);
    }

    private static void stateWhenAllHaveBegun() {
        nothing("STATE: epoch");
        scene = RefusalsTest::over;
        refused("epoch with 60 blocks", StreamChain::epoch, STATE);
        scene = () -> {
            StreamChain x = new StreamChain(4);
            Scenes.begin(x, 40);
            return x;
        };
        refused("epoch with 40 blocks", StreamChain::epoch, STATE);
    }

    private static void full() {
        nothing("FULL: epoch, propose");
        scene = Scenes::full;
        refused("epoch", StreamChain::epoch, FULL);
        refused("propose", x -> x.propose(0, 0, 40, 5, 15), FULL);
        scene = RefusalsTest::over;
        refused("propose when all epochs have begun", x -> x.propose(3, 0, 39, 5, 15), FULL);
    }
}
