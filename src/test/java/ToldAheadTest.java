/** Promises 1 to 4: a new object, lead, fall, wish. */
public final class ToldAheadTest {
    private static final Due due = new Due("ToldAheadTest");

    public static void main(String[] args) {
        sizes();
        newObject();
        leadersAtFirst();
        leadRefuses();
        leadChangesTheMaker();
        leadOfAnEpochThatHasABlock();
        leadOfAnEpochWithoutABlock();
        fallOnce();
        falseNodesDoNothingByThemselves();
        falseNodesKeepWhatCameToThemselves();
        wishes();
        wishesGoIntoBlocks();
        wishesOfAnotherForkAreMadeAgain();
        due.end();
    }

    private static void sizes() {
        int[] asked = {Integer.MIN_VALUE, -1, 0, 3, 4, 5, 9, 10, 11, Integer.MAX_VALUE};
        int[] got = {4, 4, 4, 4, 4, 5, 9, 10, 10, 10};
        for (int i = 0; i < asked.length; i++) {
            StreamChain x = new StreamChain(asked[i]);
            due.is("new(" + asked[i] + ").count(0)", x.count(0), got[i]);
            due.is("last node", x.fall(got[i] - 1), 1);
            due.is("beyond the last node", x.fall(got[i]), StreamChain.BAD);
        }
    }

    private static void newObject() {
        StreamChain x = new StreamChain(6);
        int[] counts = {6, 0, 1, 0, 0, 0, 0};
        for (int what = 0; what < counts.length; what++) {
            due.is("new: count(" + what + ")", x.count(what), counts[what]);
        }
        for (int node = 0; node < 6; node++) {
            due.is("new: seen", x.seen(node, 0), 4);
            due.is("new: votes", x.votes(node, 0), 0);
            due.is("new: REACH", x.reach(node, 0), 0);
            due.is("new: TIP", x.reach(node, 1), 0);
            due.is("new: FINAL", x.reach(node, 2), 0);
            due.is("new: ledger", x.ledger(node, 0), StreamChain.NONE);
            due.is("new: flow", x.flow(node), 0);
        }
        due.is("new: settle", x.settle(), 0);
        due.is("new: agree", x.agree(), 1);
    }

    private static void leadersAtFirst() {
        for (int n = 4; n <= 10; n++) {
            StreamChain x = new StreamChain(n);
            for (int epoch = 1; epoch <= 40; epoch++) {
                due.is("leader of " + epoch + " of " + n, x.lead(epoch, 3), epoch % n);
                due.is("leader that was told", x.lead(epoch, 0), 3);
            }
        }
    }

    private static void leadRefuses() {
        StreamChain x = new StreamChain(5);
        x.epoch();
        x.epoch();
        int[] noEpochs = {Integer.MIN_VALUE, -1, 0, 41, Integer.MAX_VALUE};
        for (int epoch : noEpochs) {
            due.is("lead(" + epoch + ", 0)", x.lead(epoch, 0), StreamChain.BAD);
        }
        int[] noNodes = {Integer.MIN_VALUE, -1, 5, Integer.MAX_VALUE};
        for (int node : noNodes) {
            due.is("lead(7, " + node + ")", x.lead(7, node), StreamChain.BAD);
            due.is("BAD ahead of STATE", x.lead(1, node), StreamChain.BAD);
        }
        due.is("lead of one that has begun", x.lead(1, 0), StreamChain.STATE);
        due.is("lead of the present one", x.lead(2, 0), StreamChain.STATE);
        due.is("lead of the next one", x.lead(3, 1), 3);
        due.is("lead of epoch 7 is as it was", x.lead(7, 0), 2);
        due.is("lead of the last one", x.lead(40, 4), 0);
    }

    private static void leadChangesTheMaker() {
        StreamChain x = new StreamChain(4);
        x.lead(1, 3);
        x.epoch();
        due.is("maker", x.about(1, 4), 3);
        due.is("the maker voted", x.voted(3, 1), 1);
        due.is("the leader at first did not", x.voted(1, 1), StreamChain.NONE);
    }

    private static void leadOfAnEpochThatHasABlock() {
        StreamChain x = new StreamChain(4);
        x.fall(2);
        due.is("block of epoch 6", x.propose(2, 0, 6, 0, 0), 1);
        due.is("lead of it", x.lead(6, 0), StreamChain.STATE);
        due.is("BAD ahead of that", x.lead(6, 4), StreamChain.BAD);
        due.is("lead of another", x.lead(10, 0), 2);
        due.is("still the leader", x.propose(2, 0, 6, 0, 0), 2);
    }

    private static void leadOfAnEpochWithoutABlock() {
        StreamChain x = new StreamChain(4);
        x.fall(1);
        x.epoch();
        due.is("no block of the present one", x.count(2), 1);
        due.is("yet it has begun", x.lead(1, 0), StreamChain.STATE);
        x.epoch();
        due.is("and so when it is over", x.lead(1, 0), StreamChain.STATE);
    }

    private static void fallOnce() {
        StreamChain x = new StreamChain(4);
        due.is("fall(-1)", x.fall(-1), StreamChain.BAD);
        due.is("fall(4)", x.fall(4), StreamChain.BAD);
        due.is("fall(min)", x.fall(Integer.MIN_VALUE), StreamChain.BAD);
        due.is("fall(max)", x.fall(Integer.MAX_VALUE), StreamChain.BAD);
        due.is("none is FALSE", x.count(3), 0);
        due.is("fall(2)", x.fall(2), 1);
        due.is("fall(2) again", x.fall(2), 0);
        due.is("fall(0)", x.fall(0), 1);
        due.is("two are FALSE", x.count(3), 2);
    }

    private static void falseNodesDoNothingByThemselves() {
        StreamChain x = new StreamChain(4);
        x.fall(1);
        due.is("epoch of a FALSE leader", x.epoch(), 1);
        due.is("it makes no block", x.count(2), 1);
        due.is("epoch of a TRUE leader", x.epoch(), 2);
        due.is("it does", x.count(2), 2);
        due.is("bring to the FALSE one", x.bring(1, 1), 1);
        due.is("it does not vote", x.voted(1, 2), StreamChain.NONE);
        due.is("votes it has", x.votes(1, 1), 0);
    }

    private static void falseNodesKeepWhatCameToThemselves() {
        StreamChain x = new StreamChain(4);
        x.fall(1);
        x.fall(2);
        due.is("block to one FALSE node", x.propose(1, 0, 1, 0, 4), 1);
        due.is("under way", x.count(4), 1);
        due.is("it comes", x.bring(1, 2), 1);
        due.is("nothing is under way", x.count(4), 0);
        due.is("passed on to a TRUE one", x.pass(2, 1, 1), 1);
        due.is("it comes there", x.bring(1, 0), 1);
        due.is("now also to the last one", x.count(4), 1);
        due.is("which is this", x.bring(1, 3), 1);
    }

    private static void wishes() {
        StreamChain x = new StreamChain(4);
        due.is("wish(-1, 0)", x.wish(-1, 0), StreamChain.BAD);
        due.is("wish(4, 0)", x.wish(4, 0), StreamChain.BAD);
        due.is("wish(0, -1)", x.wish(0, -1), StreamChain.BAD);
        due.is("wish(0, 32)", x.wish(0, 32), StreamChain.BAD);
        due.is("wish(0, min)", x.wish(0, Integer.MIN_VALUE), StreamChain.BAD);
        due.is("wish(0, max)", x.wish(0, Integer.MAX_VALUE), StreamChain.BAD);
        for (int wish = 0; wish < 32; wish++) {
            due.is("wish(1, " + wish + ")", x.wish(1, wish), 1);
            due.is("again", x.wish(1, wish), 0);
        }
        due.is("another node", x.wish(0, 31), 1);
        x.fall(2);
        due.is("a FALSE node", x.wish(2, 31), 1);
        x.epoch();
        due.is("all wishes", x.about(1, 2), -1);
    }

    private static void wishesGoIntoBlocks() {
        StreamChain x = new StreamChain(4);
        x.wish(1, 31);
        x.wish(1, 0);
        x.wish(2, 0);
        x.wish(2, 5);
        x.wish(3, 7);
        x.epoch();
        due.is("all that the leader holds", x.about(1, 2), Integer.MIN_VALUE | 1);
        x.settle();
        x.epoch();
        due.is("less what the chain has", x.about(2, 2), 1 << 5);
        x.wish(2, 6);
        due.is("a later wish is not in it", x.about(2, 2), 1 << 5);
    }

    private static void wishesOfAnotherForkAreMadeAgain() {
        StreamChain x = new StreamChain(4);
        x.wish(1, 3);
        x.wish(2, 3);
        x.epoch();
        x.epoch();
        due.is("first fork", x.about(1, 2), 8);
        due.is("second fork", x.about(2, 2), 8);
        due.is("its parent", x.about(2, 0), 0);
    }
}
