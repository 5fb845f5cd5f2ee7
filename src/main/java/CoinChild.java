/**
 * A child chain of coins under a contract: an operator puts transfers into blocks, of which the
 * contract keeps only a root; who holds a coin may take it out by an exit that can be challenged
 * with what stands in blocks; a client verifies histories, and a watcher guards what it holds.
 */
public final class CoinChild {
    public static final int BAD = -1;
    public static final int FULL = -2;
    public static final int POOR = -3;
    public static final int NOT_SO = -4;
    public static final int UNPROVEN = -5;

    private static final int USERS = 4;
    private static final int COINS = 8;
    private static final int BLOCKS = 24;
    private static final int LEVELS = 3;
    private static final int FIRST_MONEY = 100;
    private static final int MOST_VALUE = 50;
    private static final int MOST_PREV = 31;
    private static final int MOST_TICK = 100;
    private static final int LEAST_PERIOD = 4;
    private static final int MOST_PERIOD = 64;
    private static final int EXIT_BOND = 10;
    private static final int CHALLENGE_BOND = 2;
    private static final int FACTOR = 1540483477;

    private final int seed;
    private final int period;
    private final int[] money = new int[USERS];
    /** By user and coin, the block since which the user holds the coin; 0 when not. */
    private final int[] since = new int[USERS * COINS];
    private final Coin[] coins = new Coin[COINS];
    private int coinCount;
    /** From 1 on, as blocks are numbered. */
    private final Block[] blocks = new Block[BLOCKS + 1];
    private int blockCount;
    /** By coin, the transfers that users have signed and the operator has not yet looked at. */
    private final Entry[] waiting = new Entry[COINS];
    /** By coin, what the operator has forged for a block that is not honest. */
    private final Entry[] draft = new Entry[COINS];
    private int time;

    public CoinChild(int seed, int period) {
        this.seed = seed;
        this.period = Math.max(LEAST_PERIOD, Math.min(MOST_PERIOD, period));
        for (int u = 0; u < USERS; u++) {
            money[u] = FIRST_MONEY;
        }
    }

    public int deposit(int u, int v) {
        if (!isUser(u) || v < 1 || v > MOST_VALUE) {
            return BAD;
        }
        if (coinCount >= COINS || blockCount >= BLOCKS) {
            return FULL;
        }
        if (money[u] < v) {
            return POOR;
        }
        int c = coinCount;
        coinCount++;
        coins[c] = new Coin(v);
        pay(u, -v);
        Block made = new Block(true);
        made.entries[c] = new Entry(true, 0, u, u, true, mix(c, u, v));
        since[u * COINS + c] = append(made);
        return c;
    }

    public boolean send(int u, int c, int to) {
        if (!isUser(u) || !isUser(to) || u == to) {
            return false;
        }
        int held = heldSince(u, c);
        if (held == 0) {
            return false;
        }
        waiting[c] = transfer(c, held, u, to, u);
        since[u * COINS + c] = 0;
        return true;
    }

    public boolean forge(int c, int prev, int from, int to, int signer) {
        if (coinAt(c) == null || prev < 0 || prev > MOST_PREV) {
            return false;
        }
        if (!isUser(from) || !isUser(to) || !isUser(signer)) {
            return false;
        }
        draft[c] = transfer(c, prev, from, to, signer);
        return true;
    }

    public int build(boolean honest, boolean shown) {
        if (blockCount >= BLOCKS) {
            return FULL;
        }
        Block made = new Block(shown);
        Entry[] offered = honest ? waiting : draft;
        for (int c = 0; c < COINS; c++) {
            if (!honest || isFitToFollow(c, offered[c])) {
                made.entries[c] = offered[c];
            }
            offered[c] = null;
        }
        return append(made);
    }

    public boolean show(int b) {
        Block found = blockAt(b);
        if (found == null || found.shown) {
            return false;
        }
        found.shown = true;
        return true;
    }

    public int accept(int u, int c) {
        Coin wanted = coinAt(c);
        if (!isUser(u) || wanted == null) {
            return BAD;
        }
        if (wanted.gone || wanted.exit.open || isWithheldAfter(0) || !isSoundChain(c)) {
            return NOT_SO;
        }
        int last = lastWith(c);
        Entry entry = entryIn(last, c);
        if (entry == null || entry.to != u) {
            return NOT_SO;
        }
        since[u * COINS + c] = last;
        return last;
    }

    public int exit(int u, int c, int b) {
        Coin wanted = coinAt(c);
        if (!isUser(u) || wanted == null || blockAt(b) == null) {
            return BAD;
        }
        if (wanted.gone || wanted.exit.open) {
            return NOT_SO;
        }
        Entry entry = entryIn(b, c);
        if (entry == null || entry.to != u || !isFounded(c, b, entry)) {
            return UNPROVEN;
        }
        if (money[u] < EXIT_BOND) {
            return POOR;
        }
        pay(u, -EXIT_BOND);
        wanted.exit.begin(u, b, entry.prev, time);
        return 0;
    }

    public int after(int u, int c, int b) {
        int refusal = refusalToChallenge(u, c, b);
        Exit exit = exitOf(c);
        if (refusal != 0 || exit == null) {
            return refusal;
        }
        if (!spends(c, b, exit.target)) {
            return UNPROVEN;
        }
        cancel(exit, u);
        return 0;
    }

    public int between(int u, int c, int b) {
        int refusal = refusalToChallenge(u, c, b);
        Exit exit = exitOf(c);
        if (refusal != 0 || exit == null) {
            return refusal;
        }
        if (exit.source == 0 || b >= exit.target || !spends(c, b, exit.source)) {
            return UNPROVEN;
        }
        cancel(exit, u);
        return 0;
    }

    public int before(int u, int c, int b) {
        int refusal = refusalToChallenge(u, c, b);
        Exit exit = exitOf(c);
        if (refusal != 0 || exit == null) {
            return refusal;
        }
        if (time - exit.start > period / 2 || exit.wasChallengedBy(b)) {
            return NOT_SO;
        }
        if (b >= exit.source || !hasGoodEntry(b, c)) {
            return UNPROVEN;
        }
        if (money[u] < CHALLENGE_BOND) {
            return POOR;
        }
        pay(u, -CHALLENGE_BOND);
        exit.openChallenge(b, u);
        return 0;
    }

    public int answer(int c, int b, int d) {
        Exit exit = exitOf(c);
        if (exit == null || blockAt(b) == null || blockAt(d) == null) {
            return BAD;
        }
        if (!exit.open || !exit.isChallengedBy(b)) {
            return NOT_SO;
        }
        if (d > exit.source || !spends(c, d, b)) {
            return UNPROVEN;
        }
        exit.closeChallenge(b);
        pay(exit.user, CHALLENGE_BOND);
        return 0;
    }

    public int finalise(int c) {
        Coin wanted = coinAt(c);
        if (wanted == null) {
            return BAD;
        }
        Exit exit = wanted.exit;
        if (!exit.open || time - exit.start < period) {
            return NOT_SO;
        }
        int least = exit.leastChallenge();
        if (least != 0) {
            cancel(exit, exit.challengerBy(least));
            return 0;
        }
        exit.open = false;
        wanted.gone = true;
        pay(exit.user, wanted.value + EXIT_BOND);
        return 1;
    }

    public int watch(int u) {
        if (!isUser(u)) {
            return BAD;
        }
        int done = 0;
        for (int c = 0; c < COINS; c++) {
            done += guardCoin(u, c);
        }
        return done;
    }

    public int tick(int n) {
        if (n >= 0 && n <= MOST_TICK) {
            time += n;
        }
        return time;
    }

    public int user(int u, int what) {
        if (!isUser(u) || what < 0 || what > COINS) {
            return BAD;
        }
        return what == 0 ? money[u] : heldSince(u, what - 1);
    }

    public int coin(int c, int what) {
        if (c < 0 || c >= COINS || what < 0 || what > 6) {
            return BAD;
        }
        Coin asked = coinAt(c);
        if (asked == null) {
            return 0;
        }
        if (what == 0) {
            return asked.gone ? 2 : 1;
        }
        return what == 1 ? asked.value : asked.exit.look(what);
    }

    public int block(int b, int what) {
        Block asked = blockAt(b);
        if (asked == null) {
            return 0;
        }
        if (what == 0) {
            return asked.root();
        }
        if (what == 1) {
            return asked.shown ? 1 : 0;
        }
        return asked.shown ? asked.look(what) : 0;
    }

    public boolean proves(int b, int c, int leaf, int x, int y, int z) {
        Block asked = blockAt(b);
        if (asked == null || c < 0 || c >= COINS) {
            return false;
        }
        int node = climb(leaf, x, c, 1);
        node = climb(node, y, c >> 1, 2);
        node = climb(node, z, c >> 2, LEVELS);
        return node == asked.root();
    }

    public int locked() {
        int sum = 0;
        for (int c = 0; c < COINS; c++) {
            Coin counted = coinAt(c);
            if (counted != null && !counted.gone) {
                sum += counted.value + counted.exit.bonds();
            }
        }
        return sum;
    }

    private static int mix(int k, int a, int b) {
        int h = (k ^ a) * FACTOR;
        h = (h ^ h >>> 15 ^ b) * FACTOR;
        return h ^ h >>> 13;
    }

    /** A node over two others, l being that of the lesser coins. */
    private static int join(int l, int r, int level) {
        return l == 0 && r == 0 ? 0 : mix(l, r, level);
    }

    private static int climb(int node, int sibling, int place, int level) {
        return (place & 1) == 0 ? join(node, sibling, level) : join(sibling, node, level);
    }

    private static boolean isUser(int u) {
        return u >= 0 && u < USERS;
    }

    private void pay(int u, int amount) {
        if (isUser(u)) {
            money[u] += amount;
        }
    }

    private Coin coinAt(int c) {
        return c >= 0 && c < coinCount && c < COINS ? coins[c] : null;
    }

    private Exit exitOf(int c) {
        Coin owner = coinAt(c);
        return owner == null ? null : owner.exit;
    }

    private Block blockAt(int b) {
        return b >= 1 && b <= blockCount && b <= BLOCKS ? blocks[b] : null;
    }

    private Entry entryIn(int b, int c) {
        Block found = blockAt(b);
        return found == null || c < 0 || c >= COINS ? null : found.entries[c];
    }

    private int heldSince(int u, int c) {
        return isUser(u) && c >= 0 && c < COINS ? since[u * COINS + c] : 0;
    }

    private int append(Block made) {
        if (blockCount >= BLOCKS) {
            return FULL;
        }
        made.growTree();
        blockCount++;
        blocks[blockCount] = made;
        return blockCount;
    }

    private int signature(int s, int c, int prev, int to) {
        return 4 * mix(mix(seed, s, 1), c, 8 * prev + to) + s;
    }

    private Entry transfer(int c, int prev, int from, int to, int signer) {
        int signed = signature(signer, c, prev, to);
        boolean good = signed == signature(from, c, prev, to);
        return new Entry(false, prev, from, to, good, mix(signed, 8 * prev + c, 4 * from + to));
    }

    private boolean hasGoodEntry(int b, int c) {
        Entry entry = entryIn(b, c);
        return entry != null && entry.good;
    }

    /** Whether the entry of coin c in block b spends the one in block a. */
    private boolean spends(int c, int b, int a) {
        Entry later = entryIn(b, c);
        Entry earlier = entryIn(a, c);
        if (later == null || earlier == null || later.deposit) {
            return false;
        }
        return later.good && later.prev == a && a < b && earlier.good && earlier.to == later.from;
    }

    /** Whether an entry in block b is one that its user may exit for. */
    private boolean isFounded(int c, int b, Entry entry) {
        return entry.deposit || spends(c, b, entry.prev);
    }

    /** The first block later than b that has an entry of the coin; 0 when there is none. */
    private int nextOf(int c, int b) {
        for (int n = 1; n <= BLOCKS; n++) {
            if (n > b && entryIn(n, c) != null) {
                return n;
            }
        }
        return 0;
    }

    /** The latest block that has an entry of the coin; 0 when there is none. */
    private int lastWith(int c) {
        for (int b = BLOCKS; b >= 1; b--) {
            if (entryIn(b, c) != null) {
                return b;
            }
        }
        return 0;
    }

    private boolean isWithheldAfter(int b) {
        for (int n = 1; n <= BLOCKS; n++) {
            Block later = blockAt(n);
            if (n > b && later != null && !later.shown) {
                return true;
            }
        }
        return false;
    }

    /** Whether the coin's entries begin with its deposit and each other spends the one ahead. */
    private boolean isSoundChain(int c) {
        int ahead = nextOf(c, 0);
        Entry first = entryIn(ahead, c);
        if (first == null || !first.deposit) {
            return false;
        }
        for (int b = 1; b <= BLOCKS; b++) {
            if (b > ahead && entryIn(b, c) != null) {
                if (!spends(c, b, ahead)) {
                    return false;
                }
                ahead = b;
            }
        }
        return true;
    }

    /** Whether an honest operator puts this transfer into the next block. */
    private boolean isFitToFollow(int c, Entry offered) {
        Coin moved = coinAt(c);
        if (offered == null || moved == null || moved.gone || moved.exit.open) {
            return false;
        }
        int last = lastWith(c);
        Entry latest = entryIn(last, c);
        return latest != null && offered.good && offered.prev == last && offered.from == latest.to;
    }

    /** What refuses any challenge, ahead of what its kind asks; 0 when nothing does. */
    private int refusalToChallenge(int u, int c, int b) {
        Exit exit = exitOf(c);
        if (!isUser(u) || exit == null || blockAt(b) == null) {
            return BAD;
        }
        return exit.open ? 0 : NOT_SO;
    }

    private void cancel(Exit exit, int winner) {
        pay(winner, EXIT_BOND);
        for (int b = 1; b <= BLOCKS; b++) {
            if (exit.isChallengedBy(b)) {
                pay(exit.challengerBy(b), CHALLENGE_BOND);
            }
        }
        exit.open = false;
    }

    private int guardCoin(int u, int c) {
        int h = heldSince(u, c);
        Coin held = coinAt(c);
        if (h == 0 || held == null || held.gone) {
            return 0;
        }
        Exit exit = held.exit;
        if (!exit.open) {
            return isWithheldAfter(h) ? countIfDone(exit(u, c, h)) : 0;
        }
        if (exit.user == u && exit.target == h) {
            return answerAll(c, exit);
        }
        return contest(u, c, h, exit);
    }

    /** The challenge that a holder since block h makes against an exit that is not his or hers. */
    private int contest(int u, int c, int h, Exit exit) {
        if (exit.target < h) {
            return countIfDone(after(u, c, nextOf(c, exit.target)));
        }
        if (exit.target > h && exit.source < h) {
            return countIfDone(between(u, c, nextOf(c, exit.source)));
        }
        return exit.source > h ? countIfDone(before(u, c, h)) : 0;
    }

    private int answerAll(int c, Exit exit) {
        int done = 0;
        for (int b = 1; b <= BLOCKS; b++) {
            if (exit.isChallengedBy(b)) {
                done += countIfDone(answer(c, b, nextOf(c, b)));
            }
        }
        return done;
    }

    private static int countIfDone(int answered) {
        return answered == 0 ? 1 : 0;
    }

    /** What a block says of one coin. A deposit has 0 as its PREV, which is no block. */
    private static final class Entry {
        final boolean deposit;
        final int prev;
        final int from;
        final int to;
        final boolean good;
        final int leaf;

        Entry(boolean deposit, int prev, int from, int to, boolean good, int leaf) {
            this.deposit = deposit;
            this.prev = prev;
            this.from = from;
            this.to = to;
            this.good = good;
            this.leaf = leaf;
        }
    }

    private static final class Block {
        final Entry[] entries = new Entry[COINS];
        /** The root at 1, the leaf of coin c at COINS + c, the node over i at i / 2. */
        final int[] tree = new int[2 * COINS];
        boolean shown;

        Block(boolean shown) {
            this.shown = shown;
        }

        void growTree() {
            for (int c = 0; c < COINS; c++) {
                Entry entry = entries[c];
                tree[COINS + c] = entry == null ? 0 : entry.leaf;
            }
            int first = COINS / 2;
            for (int level = 1; level <= LEVELS; level++) {
                for (int i = first; i < 2 * first; i++) {
                    tree[i] = join(tree[2 * i], tree[2 * i + 1], level);
                }
                first /= 2;
            }
        }

        int root() {
            return tree[1];
        }

        /** The leaves and siblings, by the numbers of the document; 0 for others. */
        int look(int what) {
            if (what >= 2 && what < 2 + COINS) {
                return tree[COINS + what - 2];
            }
            int place = what - 2 - COINS;
            if (place < 0 || place >= LEVELS * COINS) {
                return 0;
            }
            int node = (COINS + place / LEVELS) >> (place % LEVELS);
            return tree[node ^ 1];
        }
    }

    private static final class Coin {
        final int value;
        boolean gone;
        final Exit exit = new Exit();

        Coin(int value) {
            this.value = value;
        }
    }

    /** The exit of a coin, used again for the coin's next one. */
    private static final class Exit {
        private static final int NEVER = 0;
        private static final int CLOSED = -1;

        boolean open;
        int user;
        /** B, the block of the entry that it is for. */
        int target;
        /** A, the block of the entry that the target spends; 0 for a deposit. */
        int source;
        int start;
        /** By block, NEVER, CLOSED, or the challenger plus 1 of a challenge that is open. */
        private final int[] challenges = new int[BLOCKS + 1];

        void begin(int u, int b, int a, int now) {
            open = true;
            user = u;
            target = b;
            source = a;
            start = now;
            for (int i = 0; i < challenges.length; i++) {
                challenges[i] = NEVER;
            }
        }

        private int stateOf(int b) {
            return b >= 1 && b <= BLOCKS ? challenges[b] : NEVER;
        }

        boolean wasChallengedBy(int b) {
            return stateOf(b) != NEVER;
        }

        boolean isChallengedBy(int b) {
            return stateOf(b) > 0;
        }

        int challengerBy(int b) {
            return stateOf(b) - 1;
        }

        void openChallenge(int b, int u) {
            if (b >= 1 && b <= BLOCKS) {
                challenges[b] = u + 1;
            }
        }

        void closeChallenge(int b) {
            if (b >= 1 && b <= BLOCKS) {
                challenges[b] = CLOSED;
            }
        }

        /** The least block by which a challenge is open; 0 when none is. */
        int leastChallenge() {
            for (int b = 1; b <= BLOCKS; b++) {
                if (isChallengedBy(b)) {
                    return b;
                }
            }
            return 0;
        }

        int countChallenges() {
            int count = 0;
            for (int b = 1; b <= BLOCKS; b++) {
                if (isChallengedBy(b)) {
                    count++;
                }
            }
            return count;
        }

        int bonds() {
            return open ? EXIT_BOND + CHALLENGE_BOND * countChallenges() : 0;
        }

        /** What the document's coin() tells of an exit, by its numbers. */
        int look(int what) {
            if (!open) {
                return 0;
            }
            switch (what) {
                case 2:
                    return user + 1;
                case 3:
                    return target;
                case 4:
                    return source;
                case 5:
                    return start;
                case 6:
                    return countChallenges();
                default:
                    return 0;
            }
        }
    }
}
