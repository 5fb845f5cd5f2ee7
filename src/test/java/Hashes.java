/** The document's MIX, signatures and trees, told a second time. */
final class Hashes {
    private Hashes() {
    }

    static int mix(int k, int a, int b) {
        long factor = 1540483477L;
        int h = (int) ((k ^ a) * factor);
        int shifted = h >>> 15;
        h = (int) (((h ^ shifted) ^ b) * factor);
        return h ^ (h >>> 13);
    }

    static int signature(int seed, int s, int coin, int prev, int to) {
        return 4 * mix(mix(seed, s, 1), coin, 8 * prev + to) + s;
    }

    static int depositLeaf(int coin, int to, int value) {
        return mix(coin, to, value);
    }

    static int transferLeaf(int signature, int coin, int prev, int from, int to) {
        return mix(signature, 8 * prev + coin, 4 * from + to);
    }

    /** The node of a level that stands over place: level 0 are the leaves, level 3 is the root. */
    static int node(int[] leaves, int level, int place) {
        if (level == 0) {
            return leaves[place];
        }
        int l = node(leaves, level - 1, 2 * place);
        int r = node(leaves, level - 1, 2 * place + 1);
        return l == 0 && r == 0 ? 0 : mix(l, r, level);
    }

    static int root(int[] leaves) {
        return node(leaves, 3, 0);
    }

    static int sibling(int[] leaves, int coin, int level) {
        int place = coin / (1 << level);
        return node(leaves, level, place % 2 == 0 ? place + 1 : place - 1);
    }
}
