import java.util.ArrayList;
import java.util.Arrays;
import java.util.LinkedHashSet;
import java.util.List;
import java.util.Set;
import java.util.TreeSet;

/**
 * The document's terms word by word, without regard to speed: it keeps only LETTERS and works all
 * else out anew at each call. Random runs hold StreamChain against it.
 */
final class PlainChain {
    private static final int NONE = -1, BAD = -2, STATE = -3, FULL = -4;
    private static final int PROPOSAL = -1;

    /** A PROPOSAL, or the VOTE of a voter; they are let come by blocks, the PROPOSAL first. */
    private record Letter(int block, int voter) implements Comparable<Letter> {
        @Override
        public int compareTo(Letter other) {
            return block != other.block ? Integer.compare(block, other.block)
                    : Integer.compare(voter, other.voter);
        }
    }

    private record Block(int parent, int epoch, int load, int maker) { }

    private final int n;
    private final List<Block> blocks = new ArrayList<>();
    private final List<Set<Letter>> has = new ArrayList<>();
    private final List<TreeSet<Letter>> underWay = new ArrayList<>();
    private final boolean[] lies;
    private final int[] wishes;
    private final int[] leaders = new int[41];
    private final int[][] votedFor;
    private int present;
    private int given;
    private int came;

    PlainChain(int nodes) {
        n = nodes < 4 ? 4 : nodes > 10 ? 10 : nodes;
        blocks.add(new Block(NONE, 0, 0, NONE));
        lies = new boolean[n];
        wishes = new int[n];
        votedFor = new int[n][41];
        for (int node = 0; node < n; node++) {
            has.add(new LinkedHashSet<>());
            underWay.add(new TreeSet<>());
            Arrays.fill(votedFor[node], NONE);
        }
        for (int epoch = 1; epoch <= 40; epoch++) {
            leaders[epoch] = epoch % n;
        }
    }

    int lead(int epoch, int node) {
        if (noEpoch(epoch) || noNode(node)) return BAD;
        if (epoch <= present || blocks.stream().anyMatch(b -> b.epoch == epoch)) return STATE;
        int was = leaders[epoch];
        leaders[epoch] = node;
        return was;
    }

    int fall(int node) {
        if (noNode(node)) return BAD;
        boolean was = lies[node];
        lies[node] = true;
        return was ? 0 : 1;
    }

    int wish(int node, int wish) {
        if (noNode(node) || wish < 0 || wish > 31) return BAD;
        boolean was = (wishes[node] >>> wish & 1) == 1;
        wishes[node] |= 1 << wish;
        return was ? 0 : 1;
    }

    int epoch() {
        if (present == 40) return STATE;
        int leader = leaders[present + 1];
        if (!lies[leader] && made() == 60) return FULL;
        present++;
        if (!lies[leader]) {
            int tip = reach(leader, 1);
            int load = wishes[leader];
            for (int block : chain(tip)) load &= ~blocks.get(block).load;
            blocks.add(new Block(tip, present, load, leader));
            comesToHave(leader, new Letter(blocks.size() - 1, PROPOSAL));
        }
        for (int node = 0; node < n; node++) look(node);
        return present;
    }

    int bring(int block, int node) {
        if (noBlock(block) || noNode(node)) return BAD;
        return let(new Letter(block, PROPOSAL), node);
    }

    int bringVote(int voter, int block, int node) {
        if (noNode(voter) || noBlock(block) || noNode(node)) return BAD;
        return let(new Letter(block, voter), node);
    }

    int flow(int node) {
        if (noNode(node)) return BAD;
        List<Letter> all = new ArrayList<>(underWay.get(node));
        for (Letter letter : all) let(letter, node);
        return all.size();
    }

    int settle() {
        int letters = 0;
        while (count(4) > 0) {
            for (int node = 0; node < n; node++) letters += flow(node);
        }
        return letters;
    }

    int propose(int node, int block, int epoch, int load, int to) {
        if (noNode(node) || noBlock(block) || noEpoch(epoch) || noNodes(to)) return BAD;
        if (!lies[node] || leaders[epoch] != node) return STATE;
        if (made() == 60) return FULL;
        blocks.add(new Block(block, epoch, load, node));
        Letter proposal = new Letter(blocks.size() - 1, PROPOSAL);
        comesToHave(node, proposal);
        send(proposal, to);
        return blocks.size() - 1;
    }

    int lie(int node, int block, int to) {
        if (noNode(node) || noBlock(block) || block == 0 || noNodes(to)) return BAD;
        if (!lies[node]) return STATE;
        Letter vote = new Letter(block, node);
        comesToHave(node, vote);
        return send(vote, to);
    }

    int pass(int node, int block, int to) {
        if (noNode(node) || noBlock(block) || block == 0 || noNodes(to)) return BAD;
        Letter proposal = new Letter(block, PROPOSAL);
        if (!lies[node] || !has.get(node).contains(proposal)) return STATE;
        return send(proposal, to);
    }

    int about(int block, int what) {
        if (noBlock(block) || what < 0 || what > 4) return BAD;
        Block it = blocks.get(block);
        return new int[] {it.parent, it.epoch, it.load, height(block), it.maker}[what];
    }

    int seen(int node, int block) {
        if (noNode(node) || noBlock(block)) return BAD;
        if (isFinal(node, block)) return 4;
        if (isNotarized(node, block)) return 3;
        if (isKnown(node, block)) return 2;
        return has.get(node).contains(new Letter(block, PROPOSAL)) ? 1 : 0;
    }

    int votes(int node, int block) {
        if (noNode(node) || noBlock(block)) return BAD;
        return (int) has.get(node).stream().filter(l -> l.block == block && l.voter != PROPOSAL).count();
    }

    int voted(int node, int epoch) {
        return noNode(node) || noEpoch(epoch) ? BAD : votedFor[node][epoch];
    }

    int reach(int node, int what) {
        if (noNode(node) || what < 0 || what > 2) return BAD;
        int reach = 0;
        int highestFinal = 0;
        for (int block = 0; block < blocks.size(); block++) {
            if (isNotarized(node, block)) reach = Math.max(reach, height(block));
            if (what == 2 && isFinal(node, block) && height(block) > height(highestFinal)) highestFinal = block;
        }
        int tip = NONE;
        for (int block = 0; block < blocks.size(); block++) {
            if (isNotarized(node, block) && height(block) == reach
                    && (tip == NONE || blocks.get(block).epoch > blocks.get(tip).epoch)) {
                tip = block;
            }
        }
        return new int[] {reach, tip, highestFinal}[what];
    }

    int ledger(int node, int k) {
        if (noNode(node)) return BAD;
        Set<Integer> ledger = new LinkedHashSet<>();
        List<Integer> chain = chain(reach(node, 2));
        for (int i = chain.size() - 1; i >= 0; i--) {
            for (int wish = 0; wish < 32; wish++) {
                if ((blocks.get(chain.get(i)).load >>> wish & 1) == 1) ledger.add(wish);
            }
        }
        List<Integer> inOrder = new ArrayList<>(ledger);
        return k < 0 || k >= inOrder.size() ? NONE : inOrder.get(k);
    }

    int agree() {
        for (int one = 0; one < n; one++) {
            for (int other = 0; other < n; other++) {
                int a = reach(one, 2);
                int b = reach(other, 2);
                if (!lies[one] && !lies[other] && !chain(a).contains(b) && !chain(b).contains(a)) return 0;
            }
        }
        return 1;
    }

    int count(int what) {
        int falseOnes = 0;
        int letters = 0;
        for (int node = 0; node < n; node++) {
            falseOnes += lies[node] ? 1 : 0;
            letters += underWay.get(node).size();
        }
        int[] counts = {n, present, blocks.size(), falseOnes, letters, given, came};
        return what < 0 || what >= counts.length ? BAD : counts[what];
    }

    private int made() {
        return blocks.size() - 1;
    }

    private boolean noNode(int node) {
        return node < 0 || node >= n;
    }

    private boolean noNodes(int to) {
        return to < 0 || to >> n != 0;
    }

    private boolean noEpoch(int epoch) {
        return epoch < 1 || epoch > 40;
    }

    private boolean noBlock(int block) {
        return block < 0 || block >= blocks.size();
    }

    private List<Integer> chain(int block) {
        List<Integer> chain = new ArrayList<>();
        for (int at = block; at != NONE; at = blocks.get(at).parent) chain.add(at);
        return chain;
    }

    private int height(int block) {
        return chain(block).size() - 1;
    }

    private boolean isKnown(int node, int block) {
        return block == 0 || has.get(node).contains(new Letter(block, PROPOSAL))
                && isKnown(node, blocks.get(block).parent);
    }

    private boolean isNotarized(int node, int block) {
        return block == 0 || 3 * votes(node, block) >= 2 * n && isKnown(node, block)
                && isNotarized(node, blocks.get(block).parent);
    }

    private boolean isFinal(int node, int block) {
        if (block == 0) return true;
        for (int third = 1; third < blocks.size(); third++) {
            int second = blocks.get(third).parent;
            int first = blocks.get(second).parent;
            if (first != NONE && blocks.get(second).epoch == blocks.get(first).epoch + 1
                    && blocks.get(third).epoch == blocks.get(second).epoch + 1
                    && chain(second).contains(block) && isNotarized(node, third)
                    && isNotarized(node, second) && isNotarized(node, first)) {
                return true;
            }
        }
        return false;
    }

    private int let(Letter letter, int node) {
        if (!underWay.get(node).contains(letter)) return STATE;
        came++;
        comesToHave(node, letter);
        look(node);
        return 1;
    }

    private void comesToHave(int node, Letter letter) {
        has.get(node).add(letter);
        underWay.get(node).remove(letter);
        if (!lies[node]) send(letter, (1 << n) - 1);
    }

    private int send(Letter letter, int to) {
        int more = 0;
        for (int node = 0; node < n; node++) {
            if ((to >> node & 1) == 1 && !has.get(node).contains(letter) && underWay.get(node).add(letter)) {
                more++;
            }
        }
        return more;
    }

    private void look(int node) {
        if (lies[node] || present == 0 || votedFor[node][present] != NONE) return;
        for (Letter letter : has.get(node)) {
            if (letter.voter == PROPOSAL && blocks.get(letter.block).epoch == present) {
                int parent = blocks.get(letter.block).parent;
                if (isKnown(node, letter.block) && isNotarized(node, parent)
                        && height(parent) == reach(node, 0)) {
                    votedFor[node][present] = letter.block;
                    given++;
                    comesToHave(node, new Letter(letter.block, node));
                }
                return;
            }
        }
    }
}
