import java.util.Arrays;

/** How many calls an object takes, and that none throws or fails to end, whatever it is told. */
public final class CallsTest {
    private static final Due due = new Due("CallsTest");
    private static final int CALLS = 512;
    private static final int KINDS = 19;
    /** How many numbers each kind of call takes. */
    private static final int[] NUMBERS = {2, 1, 2, 0, 2, 3, 1, 0, 5, 3, 3, 2, 2, 2, 2, 2, 2, 0, 1};
    private static final int[] WILD = {Integer.MIN_VALUE, -1, 0, 1, 3, 4, 40, 41, 60, 61, 64,
        Integer.MAX_VALUE};
    /** Fewer for the call that takes five. */
    private static final int[] WILD_OF_FIVE = {Integer.MIN_VALUE, -1, 0, 3, 40, Integer.MAX_VALUE};

    private final int state;
    private StreamChain x;
    private PlainChain y;
    private int calls;

    private CallsTest(int state) {
        this.state = state;
        renew();
    }

    public static void main(String[] args) {
        the512thCall();
        the512thCallLetsManyCome();
        callsAfterThatEnd();
        due.sentence("LANGUAGE.md, rule 7",
            "No call may ever throw or fail to end, for any arguments in any state");
        for (int state = 0; state < 4; state++) {
            new CallsTest(state).wildNumbers();
        }
        due.end();
    }

    private static void the512thCall() {
        due.sentence("What it is", "An object is used for at most 512 calls after it has been made");
        StreamChain x = new StreamChain(10);
        int calls = 0;
        for (int epoch = 1; epoch <= 40; epoch++) {
            due.is("wish", x.wish(epoch % 10, epoch % 32), 1);
            due.is("epoch", x.epoch(), epoch);
            due.is("settle", x.settle(), 99);
            calls += 3;
        }
        for (int node = 0; node < 10; node++) {
            for (int block = 3; block <= 40; block++) {
                due.is("seen(" + node + ", " + block + ")", x.seen(node, block), block < 40 ? 4 : 3);
                calls++;
            }
        }
        due.is("calls up to here", calls, 500);
        for (int node = 0; node < 10; node++) {
            due.is("highest final of " + node, x.reach(node, 2), 39);
        }
        due.is("the 511th call", x.agree(), 1);
        due.is("the 512th call", x.count(6), 3960);
    }

    private static void the512thCallLetsManyCome() {
        due.sentence("What it is", "An object is used for at most 512 calls after it has been made");
        StreamChain x = Scenes.withFalse(10, 0, 1, 2, 3, 4, 5, 6);
        for (int block = 1; block <= 60; block++) {
            x.propose(0, block - 1, 10, block, 1023);
        }
        for (int voter = 0; voter < 7; voter++) {
            for (int block = 1; block <= 60; block++) {
                due.is("lie", x.lie(voter, block, 1023), 9);
            }
        }
        for (int calls = 7 + 60 + 420 + 1; calls < CALLS; calls++) {
            due.is("under way", x.count(4), 480 * 9);
        }
        due.is("the 512th call: settle", x.settle(), 480 * 9);
    }

    private static void callsAfterThatEnd() {
        due.sentence("What it is", "what later calls answer is free");
        CallsTest run = new CallsTest(2);
        for (int i = 0; i < 20 * CALLS; i++) {
            int number = WILD[i % WILD.length];
            int kind = i % KINDS;
            run.told(kind, new int[] {number, i % 61, i % 41, i, i % 16});
        }
        due.holds("all calls ended", true);
    }

    /** State 0: new; 1: letters wait; 2: 60 blocks are made; 3: and 40 epochs have begun. */
    private void renew() {
        x = new StreamChain(4);
        y = new PlainChain(4);
        calls = 0;
        if (state > 0) {
            both(1, 3);
            both(3);
            both(8, 3, 0, 3, 5, 14);
            both(9, 3, 1, 3);
        }
        for (int made = 2; state > 1 && made < 60; made++) {
            both(8, 3, made, 3, made, 0);
        }
        for (int epoch = 2; state > 2 && epoch <= 40; epoch++) {
            both(0, epoch, 3);
            both(3);
        }
    }

    private void both(int kind, int... told) {
        int[] numbers = Arrays.copyOf(told, 5);
        String call = "state " + state + ", call " + calls + ", kind " + kind + " of "
                + Arrays.toString(numbers);
        due.is(call, told(kind, numbers), wanted(kind, numbers));
        calls++;
    }

    private void wildNumbers() {
        for (int kind = 0; kind < KINDS; kind++) {
            int[] wild = NUMBERS[kind] == 5 ? WILD_OF_FIVE : WILD;
            int all = 1;
            for (int i = 0; i < NUMBERS[kind]; i++) {
                all *= wild.length;
            }
            for (int choice = 0; choice < all; choice++) {
                wildCall(kind, wild, choice);
            }
        }
        due.holds("all calls ended", true);
    }

    private void wildCall(int kind, int[] wild, int choice) {
        if (calls >= CALLS) {
            renew();
        }
        int[] numbers = new int[NUMBERS[kind]];
        int left = choice;
        for (int i = 0; i < numbers.length; i++) {
            numbers[i] = wild[left % wild.length];
            left /= wild.length;
        }
        both(kind, numbers);
    }

    private int told(int kind, int[] a) {
        switch (kind) {
            case 0: return x.lead(a[0], a[1]);
            case 1: return x.fall(a[0]);
            case 2: return x.wish(a[0], a[1]);
            case 3: return x.epoch();
            case 4: return x.bring(a[0], a[1]);
            case 5: return x.bringVote(a[0], a[1], a[2]);
            case 6: return x.flow(a[0]);
            case 7: return x.settle();
            case 8: return x.propose(a[0], a[1], a[2], a[3], a[4]);
            case 9: return x.lie(a[0], a[1], a[2]);
            case 10: return x.pass(a[0], a[1], a[2]);
            case 11: return x.about(a[0], a[1]);
            case 12: return x.seen(a[0], a[1]);
            case 13: return x.votes(a[0], a[1]);
            case 14: return x.voted(a[0], a[1]);
            case 15: return x.reach(a[0], a[1]);
            case 16: return x.ledger(a[0], a[1]);
            case 17: return x.agree();
            default: return x.count(a[0]);
        }
    }

    private int wanted(int kind, int[] a) {
        switch (kind) {
            case 0: return y.lead(a[0], a[1]);
            case 1: return y.fall(a[0]);
            case 2: return y.wish(a[0], a[1]);
            case 3: return y.epoch();
            case 4: return y.bring(a[0], a[1]);
            case 5: return y.bringVote(a[0], a[1], a[2]);
            case 6: return y.flow(a[0]);
            case 7: return y.settle();
            case 8: return y.propose(a[0], a[1], a[2], a[3], a[4]);
            case 9: return y.lie(a[0], a[1], a[2]);
            case 10: return y.pass(a[0], a[1], a[2]);
            case 11: return y.about(a[0], a[1]);
            case 12: return y.seen(a[0], a[1]);
            case 13: return y.votes(a[0], a[1]);
            case 14: return y.voted(a[0], a[1]);
            case 15: return y.reach(a[0], a[1]);
            case 16: return y.ledger(a[0], a[1]);
            case 17: return y.agree();
            default: return y.count(a[0]);
        }
    }
}
