/** Promises 10 to 12: propose, lie, pass. */
public final class FalseNodesTest {
    private static final Due due = new Due("FalseNodesTest");
    private static final int BAD = StreamChain.BAD;
    private static final int STATE = StreamChain.STATE;

    public static void main(String[] args) {
        proposeMakes();
        proposeRefuses();
        proposeAtAnyTime();
        lieSends();
        lieAfterATrueVote();
        lieRefuses();
        passSends();
        passRefuses();
        due.end();
    }

    private static void proposeMakes() {
        StreamChain x = Scenes.withFalse(4, 3);
        due.is("propose", x.propose(3, 0, 7, Integer.MIN_VALUE | 5, 15), 1);
        due.is("parent", x.about(1, 0), 0);
        due.is("epoch", x.about(1, 1), 7);
        due.is("load", x.about(1, 2), Integer.MIN_VALUE | 5);
        due.is("height", x.about(1, 3), 1);
        due.is("maker", x.about(1, 4), 3);
        due.is("it has it", x.seen(3, 1), 2);
        due.is("under way to three", x.count(4), 3);
        due.is("not to itself", x.bring(1, 3), STATE);
        due.is("on that, of a lesser epoch, to none", x.propose(3, 1, 3, -1, 0), 2);
        due.is("height", x.about(2, 3), 2);
        due.is("nothing more under way", x.count(4), 3);
        due.is("the same again is another block", x.propose(3, 1, 3, -1, 1), 3);
        due.is("under way to one more", x.count(4), 4);
        due.is("to that one", x.bring(3, 0), 1);
        due.is("no vote of a TRUE node", x.count(5), 0);
        due.is("nor of the maker", x.votes(3, 1), 0);
    }

    private static void proposeRefuses() {
        StreamChain x = Scenes.withFalse(4, 1);
        int[] far = {Integer.MIN_VALUE, -1, Integer.MAX_VALUE};
        for (int number : far) {
            due.is("node " + number, x.propose(number, 0, 1, 0, 0), BAD);
            due.is("block " + number, x.propose(1, number, 1, 0, 0), BAD);
            due.is("epoch " + number, x.propose(1, 0, number, 0, 0), BAD);
            due.is("to " + number, x.propose(1, 0, 1, 0, number), BAD);
        }
        due.is("node 4", x.propose(4, 0, 1, 0, 0), BAD);
        due.is("block 1", x.propose(1, 1, 1, 0, 0), BAD);
        due.is("epoch 0", x.propose(1, 0, 0, 0, 0), BAD);
        due.is("epoch 41", x.propose(1, 0, 41, 0, 0), BAD);
        due.is("to 16", x.propose(1, 0, 1, 0, 16), BAD);
        due.is("BAD ahead of STATE", x.propose(0, 0, 4, 0, 16), BAD);
        due.is("a TRUE leader", x.propose(0, 0, 4, 0, 0), STATE);
        due.is("not the leader", x.propose(1, 0, 4, 0, 0), STATE);
        due.is("neither", x.propose(2, 0, 4, 0, 0), STATE);
        due.is("no block", x.count(2), 1);
        due.is("nothing is under way", x.count(4), 0);
        due.is("epoch 37 is its own", x.propose(1, 0, 37, 0, 0), 1);
        x.lead(40, 1);
        due.is("epoch 40 as well", x.propose(1, 0, 40, 0, 0), 2);
    }

    private static void proposeAtAnyTime() {
        StreamChain x = new StreamChain(4);
        x.epoch();
        x.fall(1);
        due.is("one more of the present epoch", x.propose(1, 0, 1, 0, 13), 2);
        due.is("to node 0", x.bring(2, 0), 1);
        due.is("which votes for it", x.voted(0, 1), 2);
        x.flow(3);
        due.is("another has the TRUE one first", x.voted(3, 1), 1);
        x.epoch();
        due.is("one of an epoch that is over", x.propose(1, 2, 1, 0, 13), 4);
        due.is("its epoch", x.about(4, 1), 1);
    }

    private static void lieSends() {
        StreamChain x = Scenes.withFalse(5, 0, 1);
        x.propose(0, 0, 5, 0, 0);
        due.is("votes ahead", x.votes(1, 1), 0);
        due.is("to none", x.lie(1, 1, 0), 0);
        due.is("it has it", x.votes(1, 1), 1);
        due.is("not as a TRUE one", x.voted(1, 5), StreamChain.NONE);
        due.is("nor is it counted", x.count(5), 0);
        due.is("to itself", x.lie(1, 1, 2), 0);
        due.is("to 2 and itself", x.lie(1, 1, 6), 1);
        due.is("to all", x.lie(1, 1, 31), 3);
        due.is("to all again", x.lie(1, 1, 31), 0);
        due.is("under way", x.count(4), 4);
        due.is("its own vote is not under way to it", x.bringVote(1, 1, 1), STATE);
        due.is("another's vote to 2", x.lie(0, 1, 4), 1);
        due.is("it comes", x.bringVote(0, 1, 2), 1);
        due.is("so it is under way to all", x.lie(0, 1, 31), 0);
        due.is("under way", x.count(4), 7);
        due.is("many votes of one epoch", x.propose(0, 0, 5, 0, 0), 2);
        due.is("for another block", x.lie(1, 2, 1), 1);
    }

    private static void lieAfterATrueVote() {
        StreamChain x = new StreamChain(4);
        x.epoch();
        x.fall(1);
        due.is("the vote is under way already", x.lie(1, 1, 15), 0);
        due.is("it is one vote", x.votes(1, 1), 1);
        due.is("it stays one of a TRUE node", x.count(5), 1);
        due.is("and it voted as one", x.voted(1, 1), 1);
    }

    private static void lieRefuses() {
        StreamChain x = Scenes.withFalse(4, 1);
        x.propose(1, 0, 1, 0, 0);
        int[] far = {Integer.MIN_VALUE, -1, Integer.MAX_VALUE};
        for (int number : far) {
            due.is("node " + number, x.lie(number, 1, 0), BAD);
            due.is("block " + number, x.lie(1, number, 0), BAD);
            due.is("to " + number, x.lie(1, 1, number), BAD);
        }
        due.is("node 4", x.lie(4, 1, 0), BAD);
        due.is("the first block", x.lie(1, 0, 0), BAD);
        due.is("block 2", x.lie(1, 2, 0), BAD);
        due.is("to 16", x.lie(1, 1, 16), BAD);
        due.is("BAD ahead of STATE", x.lie(0, 0, 0), BAD);
        due.is("a TRUE one", x.lie(0, 1, 15), STATE);
        due.is("no vote", x.votes(1, 1) + x.votes(0, 1), 0);
        due.is("nothing is under way", x.count(4), 0);
    }

    private static void passSends() {
        StreamChain x = Scenes.withFalse(5, 1, 2);
        x.propose(1, 0, 1, 0, 4);
        due.is("its maker passes it on", x.pass(1, 1, 1), 1);
        due.is("to itself and to that one", x.pass(1, 1, 3), 0);
        due.is("the other has it not", x.pass(2, 1, 8), STATE);
        due.is("nothing more under way", x.count(4), 2);
        x.bring(1, 2);
        due.is("it has it now", x.pass(2, 1, 8), 1);
        due.is("to all", x.pass(2, 1, 31), 1);
        due.is("to all again", x.pass(1, 1, 31), 0);
        due.is("to none", x.pass(1, 1, 0), 0);
        due.is("under way", x.count(4), 3);
    }

    private static void passRefuses() {
        StreamChain x = Scenes.withFalse(4, 1);
        x.propose(1, 0, 1, 0, 1);
        int[] far = {Integer.MIN_VALUE, -1, Integer.MAX_VALUE};
        for (int number : far) {
            due.is("node " + number, x.pass(number, 1, 0), BAD);
            due.is("block " + number, x.pass(1, number, 0), BAD);
            due.is("to " + number, x.pass(1, 1, number), BAD);
        }
        due.is("node 4", x.pass(4, 1, 0), BAD);
        due.is("the first block", x.pass(1, 0, 0), BAD);
        due.is("block 2", x.pass(1, 2, 0), BAD);
        due.is("to 16", x.pass(1, 1, 16), BAD);
        due.is("BAD ahead of STATE", x.pass(0, 0, 0), BAD);
        x.bring(1, 0);
        due.is("a TRUE one that has it", x.pass(0, 1, 15), STATE);
        x.fall(2);
        due.is("a FALSE one to which it is under way", x.pass(2, 1, 15), STATE);
        due.is("under way to 2 and 3", x.count(4), 2);
    }
}
