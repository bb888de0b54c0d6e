import java.util.Arrays;

/**
 * A chain of blocks by the way of Streamlet. Words in capitals are the terms of the document;
 * a set of NODES or WISHES is the bits of an int, a set of BLOCKS those of a long.
 */
public final class StreamChain {
    public static final int NONE = -1, BAD = -2, STATE = -3, FULL = -4;

    private static final int LEAST_NODES = 4;
    private static final int MOST_NODES = 10;
    private static final int LAST_EPOCH = 40;
    private static final int FIRST = 0;
    private static final int MOST_MADE = 60;
    private static final int WISHES = 32;
    // A BLOCK has one PROPOSAL and a VOTE of each NODE at most; each comes to a NODE once at most.
    private static final int MOST_COMINGS = MOST_MADE * (1 + MOST_NODES) * MOST_NODES;

    private final Blocks blocks;
    private final Node[] nodes;
    private final int[] leaders;
    private int present;
    private int votesGiven;
    private int lettersCome;

    public StreamChain(int nodes) {
        int size = Math.max(LEAST_NODES, Math.min(MOST_NODES, nodes));
        blocks = new Blocks();
        this.nodes = new Node[size];
        for (int number = 0; number < size; number++) {
            this.nodes[number] = new Node(number, size, blocks);
        }
        leaders = new int[LAST_EPOCH + 1];
        for (int epoch = 1; epoch <= LAST_EPOCH; epoch++) {
            leaders[epoch] = epoch % size;
        }
    }

    // ---- what is told ahead

    public int lead(int epoch, int node) {
        if (!isEpoch(epoch) || nodeAt(node) == null) {
            return BAD;
        }
        if (epoch <= present || blocks.hasOneOf(epoch)) {
            return STATE;
        }
        int before = leaders[epoch];
        leaders[epoch] = node;
        return before;
    }

    public int fall(int node) {
        Node falling = nodeAt(node);
        if (falling == null) {
            return BAD;
        }
        if (falling.isFalse) {
            return 0;
        }
        falling.isFalse = true;
        return 1;
    }

    public int wish(int node, int wish) {
        Node holder = nodeAt(node);
        if (holder == null || wish < 0 || wish >= WISHES) {
            return BAD;
        }
        int held = holder.wishes;
        holder.wishes = held | 1 << wish;
        return holder.wishes == held ? 0 : 1;
    }

    // ---- epochs and letters

    public int epoch() {
        if (present >= LAST_EPOCH) {
            return STATE;
        }
        Node leader = nodes[leaders[present + 1]];
        if (!leader.isFalse && !blocks.haveRoom()) {
            return FULL;
        }
        present++;
        if (!leader.isFalse) {
            makeOnTip(leader);
        }
        for (Node node : nodes) {
            look(node);
        }
        return present;
    }

    public int bring(int block, int node) {
        Node receiver = nodeAt(node);
        if (receiver == null || !blocks.exist(block)) {
            return BAD;
        }
        if (!holds(receiver.proposalsUnderWay, block)) {
            return STATE;
        }
        letProposalCome(receiver, block);
        return 1;
    }

    public int bringVote(int voter, int block, int node) {
        Node receiver = nodeAt(node);
        if (receiver == null || nodeAt(voter) == null || !blocks.exist(block)) {
            return BAD;
        }
        if (!holds(receiver.votersUnderWay[block], voter)) {
            return STATE;
        }
        letVoteCome(receiver, voter, block);
        return 1;
    }

    public int flow(int node) {
        Node receiver = nodeAt(node);
        return receiver == null ? BAD : letAllCome(receiver);
    }

    public int settle() {
        int before = lettersCome;
        // Each round but the last one lets a LETTER come, so the bound is never what ends this.
        for (int round = 0; round <= MOST_COMINGS && lettersUnderWay() > 0; round++) {
            for (Node node : nodes) {
                letAllCome(node);
            }
        }
        return lettersCome - before;
    }

    // ---- FALSE nodes

    public int propose(int node, int block, int epoch, int load, int to) {
        Node maker = nodeAt(node);
        if (maker == null || !blocks.exist(block) || !isEpoch(epoch) || !areNodes(to)) {
            return BAD;
        }
        if (!maker.isFalse || leaders[epoch] != node) {
            return STATE;
        }
        if (!blocks.haveRoom()) {
            return FULL;
        }
        int made = blocks.make(block, epoch, load, node);
        takeProposal(maker, made);
        sendProposal(made, to);
        return made;
    }

    public int lie(int node, int block, int to) {
        Node liar = nodeAt(node);
        if (liar == null || block == FIRST || !blocks.exist(block) || !areNodes(to)) {
            return BAD;
        }
        if (!liar.isFalse) {
            return STATE;
        }
        takeVote(liar, node, block);
        return sendVote(node, block, to);
    }

    public int pass(int node, int block, int to) {
        Node sender = nodeAt(node);
        if (sender == null || block == FIRST || !blocks.exist(block) || !areNodes(to)) {
            return BAD;
        }
        if (!sender.isFalse || !holds(sender.proposals, block)) {
            return STATE;
        }
        return sendProposal(block, to);
    }

    // ---- what is seen

    public int about(int block, int what) {
        if (!blocks.exist(block)) {
            return BAD;
        }
        switch (what) {
            case 0: return blocks.parent[block];
            case 1: return blocks.epoch[block];
            case 2: return blocks.load[block];
            case 3: return blocks.height[block];
            case 4: return blocks.maker[block];
            default: return BAD;
        }
    }

    public int seen(int node, int block) {
        Node viewer = nodeAt(node);
        if (viewer == null || !blocks.exist(block)) {
            return BAD;
        }
        if (holds(viewer.finals, block)) {
            return 4;
        }
        if (holds(viewer.notarized, block)) {
            return 3;
        }
        if (holds(viewer.known, block)) {
            return 2;
        }
        return holds(viewer.proposals, block) ? 1 : 0;
    }

    public int votes(int node, int block) {
        Node viewer = nodeAt(node);
        if (viewer == null || !blocks.exist(block)) {
            return BAD;
        }
        return Integer.bitCount(viewer.voters[block]);
    }

    public int voted(int node, int epoch) {
        Node voter = nodeAt(node);
        if (voter == null || !isEpoch(epoch)) {
            return BAD;
        }
        return voter.votedFor[epoch];
    }

    public int reach(int node, int what) {
        Node viewer = nodeAt(node);
        if (viewer == null) {
            return BAD;
        }
        switch (what) {
            case 0: return blocks.height[viewer.tip];
            case 1: return viewer.tip;
            case 2: return viewer.highestFinal;
            default: return BAD;
        }
    }

    public int ledger(int node, int k) {
        Node viewer = nodeAt(node);
        if (viewer == null) {
            return BAD;
        }
        long chain = blocks.chain[viewer.highestFinal];
        int ahead = 0;
        int left = k;
        // Numbers grow along a CHAIN, so counting up goes from the FIRST one on.
        for (int block = FIRST; block < blocks.total && left >= 0; block++) {
            if (holds(chain, block)) {
                int fresh = blocks.load[block] & ~ahead;
                if (left < Integer.bitCount(fresh)) {
                    return wishAt(fresh, left);
                }
                left -= Integer.bitCount(fresh);
                ahead |= fresh;
            }
        }
        return NONE;
    }

    public int agree() {
        for (Node one : nodes) {
            for (Node other : nodes) {
                if (!one.isFalse && !other.isFalse && !areInLine(one.highestFinal, other.highestFinal)) {
                    return 0;
                }
            }
        }
        return 1;
    }

    public int count(int what) {
        switch (what) {
            case 0: return nodes.length;
            case 1: return present;
            case 2: return blocks.total;
            case 3: return falseNodes();
            case 4: return lettersUnderWay();
            case 5: return votesGiven;
            case 6: return lettersCome;
            default: return BAD;
        }
    }

    // ---- what numbers may be

    private Node nodeAt(int number) {
        return number >= 0 && number < nodes.length ? nodes[number] : null;
    }

    private boolean areNodes(int set) {
        return set >= 0 && set < 1 << nodes.length;
    }

    private static boolean isEpoch(int epoch) {
        return epoch >= 1 && epoch <= LAST_EPOCH;
    }

    // ---- sets

    private static boolean holds(long set, int number) {
        return (set >>> number & 1L) != 0;
    }

    /** The k-th WISH of a set, by numbers. */
    private static int wishAt(int set, int k) {
        int left = k;
        for (int wish = 0; wish < WISHES; wish++) {
            if (holds(set, wish)) {
                if (left == 0) {
                    return wish;
                }
                left--;
            }
        }
        return NONE;
    }

    // ---- letters that come

    private int letAllCome(Node receiver) {
        int before = lettersCome;
        // Nothing new gets UNDER WAY to a NODE by what comes to it, so this lets come just what was.
        for (int block = FIRST + 1; block < blocks.total; block++) {
            if (holds(receiver.proposalsUnderWay, block)) {
                letProposalCome(receiver, block);
            }
            for (int voter = 0; voter < nodes.length && receiver.votersUnderWay[block] != 0; voter++) {
                if (holds(receiver.votersUnderWay[block], voter)) {
                    letVoteCome(receiver, voter, block);
                }
            }
        }
        return lettersCome - before;
    }

    private void letProposalCome(Node receiver, int block) {
        lettersCome++;
        takeProposal(receiver, block);
        look(receiver);
    }

    private void letVoteCome(Node receiver, int voter, int block) {
        lettersCome++;
        takeVote(receiver, voter, block);
        look(receiver);
    }

    // ---- letters that a node has, and that it sends

    private void takeProposal(Node node, int block) {
        node.haveProposal(block);
        if (!node.isFalse) {
            sendProposal(block, allNodes());
        }
    }

    private void takeVote(Node node, int voter, int block) {
        node.haveVote(voter, block);
        if (!node.isFalse) {
            sendVote(voter, block, allNodes());
        }
    }

    private int sendProposal(int block, int to) {
        int more = 0;
        for (Node node : nodes) {
            if (holds(to, node.number) && node.expectProposal(block)) {
                more++;
            }
        }
        return more;
    }

    private int sendVote(int voter, int block, int to) {
        int more = 0;
        for (Node node : nodes) {
            if (holds(to, node.number) && node.expectVote(voter, block)) {
                more++;
            }
        }
        return more;
    }

    private int allNodes() {
        return (1 << nodes.length) - 1;
    }

    // ---- what true nodes do by themselves

    private void makeOnTip(Node leader) {
        int load = leader.wishes & ~blocks.chainLoad[leader.tip];
        int made = blocks.make(leader.tip, present, load, leader.number);
        takeProposal(leader, made);
    }

    private void look(Node node) {
        int choice = node.isFalse ? NONE : node.choice(present);
        if (choice != NONE) {
            node.votedFor[present] = choice;
            votesGiven++;
            node.haveVote(node.number, choice);
            sendVote(node.number, choice, allNodes());
        }
    }

    // ---- what is counted and compared

    private int falseNodes() {
        int found = 0;
        for (Node node : nodes) {
            if (node.isFalse) {
                found++;
            }
        }
        return found;
    }

    private int lettersUnderWay() {
        int found = 0;
        for (Node node : nodes) {
            found += Long.bitCount(node.proposalsUnderWay);
            for (int block = FIRST; block < blocks.total; block++) {
                found += Integer.bitCount(node.votersUnderWay[block]);
            }
        }
        return found;
    }

    private boolean areInLine(int one, int other) {
        return holds(blocks.chain[one], other) || holds(blocks.chain[other], one);
    }

    /** All BLOCKS there are. A PARENT always has a lesser number than those on it. */
    private static final class Blocks {
        private final int[] parent = new int[MOST_MADE + 1];
        private final int[] epoch = new int[MOST_MADE + 1];
        private final int[] load = new int[MOST_MADE + 1];
        private final int[] height = new int[MOST_MADE + 1];
        private final int[] maker = new int[MOST_MADE + 1];
        private final long[] chain = new long[MOST_MADE + 1];
        private final int[] chainLoad = new int[MOST_MADE + 1];
        private int total = 1;

        private Blocks() {
            parent[FIRST] = NONE;
            maker[FIRST] = NONE;
            chain[FIRST] = 1L << FIRST;
        }

        private boolean exist(int block) {
            return block >= FIRST && block < total;
        }

        private boolean haveRoom() {
            return total <= MOST_MADE;
        }

        private boolean hasOneOf(int sought) {
            for (int block = FIRST; block < total; block++) {
                if (epoch[block] == sought) {
                    return true;
                }
            }
            return false;
        }

        /** Only where there is room, on a BLOCK that exists: the new BLOCK. */
        private int make(int on, int ofEpoch, int wishes, int by) {
            int made = total;
            total++;
            parent[made] = on;
            epoch[made] = ofEpoch;
            load[made] = wishes;
            height[made] = height[on] + 1;
            maker[made] = by;
            chain[made] = chain[on] | 1L << made;
            chainLoad[made] = chainLoad[on] | wishes;
            return made;
        }
    }

    /** A NODE: what it HAS, what is UNDER WAY to it, how it voted, and what BLOCKS are to it. */
    private static final class Node {
        private final int number;
        private final int size;
        private final Blocks blocks;
        private boolean isFalse;
        private int wishes;
        private long proposals;
        private long proposalsUnderWay;
        private final int[] voters = new int[MOST_MADE + 1];
        private final int[] votersUnderWay = new int[MOST_MADE + 1];
        private final int[] firstCome = new int[LAST_EPOCH + 1];
        private final int[] votedFor = new int[LAST_EPOCH + 1];
        private long known = 1L << FIRST;
        private long notarized = 1L << FIRST;
        private long finals = 1L << FIRST;
        private int tip = FIRST;
        private int highestFinal = FIRST;

        private Node(int number, int size, Blocks blocks) {
            this.number = number;
            this.size = size;
            this.blocks = blocks;
            Arrays.fill(firstCome, NONE);
            Arrays.fill(votedFor, NONE);
        }

        /** Whether it is UNDER WAY to one NODE more by this. */
        private boolean expectProposal(int block) {
            boolean isNew = !holds(proposals | proposalsUnderWay, block);
            if (isNew) {
                proposalsUnderWay |= 1L << block;
            }
            return isNew;
        }

        /** Whether it is UNDER WAY to one NODE more by this. */
        private boolean expectVote(int voter, int block) {
            boolean isNew = !holds(voters[block] | votersUnderWay[block], voter);
            if (isNew) {
                votersUnderWay[block] |= 1 << voter;
            }
            return isNew;
        }

        private void haveProposal(int block) {
            proposals |= 1L << block;
            proposalsUnderWay &= ~(1L << block);
            int epoch = blocks.epoch[block];
            if (firstCome[epoch] == NONE) {
                firstCome[epoch] = block;
            }
            judgeFrom(block);
        }

        private void haveVote(int voter, int block) {
            voters[block] |= 1 << voter;
            votersUnderWay[block] &= ~(1 << voter);
            judgeFrom(block);
        }

        /** A LETTER changes what its BLOCK is and what those on it are: no lesser numbers. */
        private void judgeFrom(int changed) {
            for (int block = changed; block < blocks.total; block++) {
                int parent = blocks.parent[block];
                if (parent == NONE) {
                    continue;
                }
                if (holds(proposals, block) && holds(known, parent)) {
                    known |= 1L << block;
                }
                boolean hasVotes = 3 * Integer.bitCount(voters[block]) >= 2 * size;
                if (hasVotes && !holds(notarized, block) && holds(known, block) && holds(notarized, parent)) {
                    notarized |= 1L << block;
                    raiseTip(block);
                    makeFinalBelow(block, parent);
                }
            }
        }

        private void raiseTip(int block) {
            int higher = blocks.height[block] - blocks.height[tip];
            int later = blocks.epoch[block] - blocks.epoch[tip];
            // A lesser number may be NOTARIZED after a greater one.
            if (higher > 0 || higher == 0 && (later > 0 || later == 0 && block < tip)) {
                tip = block;
            }
        }

        /** The PARENT was NOTARIZED ahead of the BLOCK, which so can only be the third of three. */
        private void makeFinalBelow(int third, int second) {
            int first = blocks.parent[second];
            if (first == NONE || blocks.epoch[second] != blocks.epoch[first] + 1
                    || blocks.epoch[third] != blocks.epoch[second] + 1) {
                return;
            }
            finals |= blocks.chain[second];
            int higher = blocks.height[second] - blocks.height[highestFinal];
            if (higher > 0 || higher == 0 && second < highestFinal) {
                highestFinal = second;
            }
        }

        /** For which BLOCK it votes as it LOOKS in the present EPOCH; NONE. */
        private int choice(int present) {
            int block = firstCome[present];
            if (block == NONE || votedFor[present] != NONE || !holds(known, block)) {
                return NONE;
            }
            int parent = blocks.parent[block];
            if (parent == NONE || !holds(notarized, parent)) {
                return NONE;
            }
            return blocks.height[parent] == blocks.height[tip] ? block : NONE;
        }
    }
}
