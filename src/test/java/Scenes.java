/** Nets in states that several tests start from. */
final class Scenes {
    private Scenes() { }

    /** A net some of whose nodes are FALSE. */
    static StreamChain withFalse(int n, int... fallen) {
        StreamChain x = new StreamChain(n);
        for (int node : fallen) {
            x.fall(node);
        }
        return x;
    }

    /** Nodes 0 .. 3 of six are FALSE, and 0 leads all epochs: their four votes notarize a block. */
    static StreamChain underFalseOnes() {
        StreamChain x = withFalse(6, 0, 1, 2, 3);
        for (int epoch = 1; epoch <= 40; epoch++) {
            x.lead(epoch, 0);
        }
        return x;
    }

    /** Under FALSE ones: makes a block, and has it and four votes for it come to one node. */
    static int notarize(StreamChain x, int parent, int epoch, int load, int node) {
        int block = x.propose(0, parent, epoch, load, 1 << node);
        x.bring(block, node);
        vote(x, block, node);
        return block;
    }

    /** Under FALSE ones: has four votes for a block come to one node. */
    static void vote(StreamChain x, int block, int node) {
        for (int voter = 0; voter < 4; voter++) {
            x.lie(voter, block, 1 << node);
            x.bringVote(voter, block, node);
        }
    }

    /** Under FALSE ones: a proposal of node 0 that was sent to none comes to one node. */
    static void show(StreamChain x, int block, int node) {
        x.pass(0, block, 1 << node);
        x.bring(block, node);
    }

    /** Node 0 of four is FALSE and has made 60 blocks of epoch 40, each on the one ahead, sent to none. */
    static StreamChain full() {
        StreamChain x = withFalse(4, 0);
        for (int parent = 0; parent < 60; parent++) {
            x.propose(0, parent, 40, 0, 0);
        }
        return x;
    }

    /** So many epochs begin. */
    static void begin(StreamChain x, int epochs) {
        for (int i = 0; i < epochs; i++) {
            x.epoch();
        }
    }
}
