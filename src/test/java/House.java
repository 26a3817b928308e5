/** A TokenHouse that counts its calls: nothing is promised behind the 512th, so no test may lean on one. */
final class House {
    private static final int MOST_CALLS = 512;
    private final TokenHouse house = new TokenHouse();
    private int calls = 0;

    private TokenHouse counted() {
        calls++;
        if (calls > MOST_CALLS) {
            throw new AssertionError("a test makes more than " + MOST_CALLS + " calls on one object");
        }
        return house;
    }

    int node(int op, int n) {
        return counted().node(op, n);
    }

    boolean arc(int from, int side, int to, int port) {
        return counted().arc(from, side, to, port);
    }

    boolean token(int node, int port, long v) {
        return counted().token(node, port, v);
    }

    int run(int n, long pick) {
        return counted().run(n, pick);
    }

    void clear(boolean all) {
        counted().clear(all);
    }

    int ready(int i, int what) {
        return counted().ready(i, what);
    }

    long result(int i, int what) {
        return counted().result(i, what);
    }

    int context(int c, int what) {
        return counted().context(c, what);
    }

    long cell(int array, int i, int what) {
        return counted().cell(array, i, what);
    }

    int waiting(int node, int context) {
        return counted().waiting(node, context);
    }

    int total(int what) {
        return counted().total(what);
    }
}
