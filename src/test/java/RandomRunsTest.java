import java.util.Random;

/** All promises: runs of random calls, the same each time, held against PlainChain. */
public final class RandomRunsTest {
    private static final int RUNS = 400;
    private static final int CALLS = 512;
    private static final int CALL_KINDS = 19;
    private static final int[] WILD = {Integer.MIN_VALUE, -100, -2, -1, 0, 1, 4, 10, 11, 31, 32, 40, 41,
        60, 61, 64, 100, 1 << 20, Integer.MAX_VALUE};

    private final Due due;
    private final Random random;
    private final int n;
    private final int[] weights = new int[CALL_KINDS];
    private final StreamChain x;
    private final PlainChain y;
    private int calls;
    private String call;

    private RandomRunsTest(Due due, int seed) {
        this.due = due;
        random = new Random(seed);
        int asked = 3 + random.nextInt(9);
        n = Math.max(4, Math.min(10, asked));
        for (int kind = 0; kind < CALL_KINDS; kind++) {
            weights[kind] = random.nextInt(3) == 0 ? 1 : 1 + random.nextInt(20);
        }
        x = new StreamChain(asked);
        y = new PlainChain(asked);
    }

    public static void main(String[] args) {
        Due due = new Due("RandomRunsTest");
        for (int seed = 0; seed < RUNS && due.wrong() == 0; seed++) {
            new RandomRunsTest(due, seed).run(seed);
        }
        due.end();
    }

    private void run(int seed) {
        boolean forks = random.nextInt(4) == 0;
        tellAhead(forks);
        while (calls < CALLS - 2 * n && due.wrong() == 0) {
            if (forks && random.nextInt(8) == 0) {
                notarizeByLies();
            }
            int[] answers = answers(kind());
            is("run " + seed + ", call " + calls + ", " + call, answers[0], answers[1]);
        }
    }

    private void is(String what, int got, int want) {
        calls++;
        due.is(what, got, want);
    }

    /** Some nodes fall, and one leads many epochs, so that chains under lies get long. */
    private void tellAhead(boolean forks) {
        int fallen = forks ? n - 2 : random.nextInt(n + 1);
        for (int node = 0; node < fallen; node++) {
            is("fall", x.fall(node), y.fall(node));
        }
        if (forks || random.nextBoolean()) {
            for (int epoch = 1; epoch <= 40; epoch++) {
                int leader = random.nextInt(forks ? 10 : 4) == 0 ? random.nextInt(n) : 0;
                is("lead", x.lead(epoch, leader), y.lead(epoch, leader));
            }
        }
    }

    /** Node 0 makes a block of an epoch next to its parent's, all vote for it that can, and one sees it. */
    private void notarizeByLies() {
        int parent = random.nextInt(y.count(2));
        int epoch = Math.min(40, y.about(parent, 1) + 1);
        int node = random.nextInt(n);
        int load = random.nextInt() & random.nextInt() & random.nextInt() & random.nextInt();
        int made = y.propose(0, parent, epoch, load, 1 << node);
        is("propose", x.propose(0, parent, epoch, load, 1 << node), made);
        int block = made > 0 ? made : parent;
        for (int voter = 0; voter < n; voter++) {
            is("lie", x.lie(voter, block, 1 << node), y.lie(voter, block, 1 << node));
        }
        is("flow", x.flow(node), y.flow(node));
        is("highest final", x.reach(node, 2), y.reach(node, 2));
        int k = random.nextInt(8);
        is("ledger", x.ledger(node, k), y.ledger(node, k));
        is("agree", x.agree(), y.agree());
    }

    private int kind() {
        int all = 0;
        for (int weight : weights) {
            all += weight;
        }
        int left = random.nextInt(all);
        int kind = 0;
        while (left >= weights[kind]) {
            left -= weights[kind];
            kind++;
        }
        return kind;
    }

    private int of(int least, int most) {
        return random.nextInt(60) == 0 ? WILD[random.nextInt(WILD.length)]
                : least + random.nextInt(most - least + 1);
    }

    private int node() {
        return of(0, n - 1);
    }

    private int block() {
        int most = y.count(2) - 1;
        return random.nextBoolean() ? of(Math.max(0, most - 3), most) : of(0, most);
    }

    private int epochNumber() {
        int present = y.count(1);
        return random.nextBoolean() ? of(Math.max(1, present), Math.min(40, present + 3)) : of(1, 40);
    }

    private int set() {
        return random.nextInt(3) == 0 ? (1 << n) - 1 : of(0, (1 << n) - 1);
    }

    private int[] answers(int kind) {
        int node = node();
        int block = block();
        int epoch = epochNumber();
        int other = node();
        int to = set();
        int wish = of(0, 31);
        int what = of(0, 7);
        int load = random.nextInt() & random.nextInt() & random.nextInt();
        call = "kind " + kind + " with node " + node + ", block " + block + ", epoch " + epoch + ", other "
                + other + ", to " + to + ", wish " + wish + ", what " + what + ", load " + load;
        switch (kind) {
            case 0: return new int[] {x.lead(epoch, node), y.lead(epoch, node)};
            case 1: return random.nextInt(8) != 0 ? new int[] {x.agree(), y.agree()}
                    : new int[] {x.fall(node), y.fall(node)};
            case 2: return new int[] {x.wish(node, wish), y.wish(node, wish)};
            case 3: return new int[] {x.epoch(), y.epoch()};
            case 4: return new int[] {x.bring(block, node), y.bring(block, node)};
            case 5: return new int[] {x.bringVote(other, block, node), y.bringVote(other, block, node)};
            case 6: return new int[] {x.flow(node), y.flow(node)};
            case 7: return random.nextInt(4) != 0 ? new int[] {x.agree(), y.agree()}
                    : new int[] {x.settle(), y.settle()};
            case 8: return new int[] {x.propose(node, block, epoch, load, to),
                y.propose(node, block, epoch, load, to)};
            case 9: return new int[] {x.propose(0, block, epoch, load, to),
                y.propose(0, block, epoch, load, to)};
            case 10: return new int[] {x.lie(node, block, to), y.lie(node, block, to)};
            case 11: return new int[] {x.pass(node, block, to), y.pass(node, block, to)};
            case 12: return new int[] {x.about(block, what), y.about(block, what)};
            case 13: return new int[] {x.seen(node, block), y.seen(node, block)};
            case 14: return new int[] {x.votes(node, block), y.votes(node, block)};
            case 15: return new int[] {x.voted(node, epoch), y.voted(node, epoch)};
            case 16: return new int[] {x.reach(node, what), y.reach(node, what)};
            case 17: return new int[] {x.ledger(node, wish - 1), y.ledger(node, wish - 1)};
            default: return new int[] {x.count(what), y.count(what)};
        }
    }
}
