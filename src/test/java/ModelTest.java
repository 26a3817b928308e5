import java.util.ArrayList;
import java.util.Arrays;
import java.util.List;
import java.util.NoSuchElementException;
import java.util.Random;
import java.util.TreeMap;

/** Random runs of calls on a TokenHouse and on a plain second model of the document, answer by answer. */
public final class ModelTest {
    private static final int RUNS = 6000;
    private static final int STEPS = 100;
    /** Behind the 512th call nothing is promised. */
    private static final int MOST_CALLS = 512;

    /** A VALUE as the text of its kind (0, 1, 2) and its number. */
    private static final class Val {
        final int kind;
        final long num;

        Val(int kind, long num) {
            this.kind = kind;
            this.num = num;
        }
    }

    /** The document, told in lists and maps, with no thought for speed or room. */
    private static final class Model {
        static final int[] PORTS = {1, 2, 2, 2, 2, 2, 1, 2, 1, 1, 1, 1, 1, 1, 1, 2, 3, 1};

        static final class Trap extends RuntimeException {
            private static final long serialVersionUID = 1L;
            final int kind;

            Trap(int kind) {
                this.kind = kind;
            }
        }

        List<int[]> nodes = new ArrayList<>();
        List<int[]> arcs = new ArrayList<>();
        TreeMap<List<Integer>, Val> waits = new TreeMap<>((a, b) -> Arrays.compare(ints(a), ints(b)));
        List<Object[]> ready = new ArrayList<>();
        List<Object[]> kept = new ArrayList<>();
        List<Object[]> results = new ArrayList<>();
        List<int[]> contexts = new ArrayList<>(List.of(new int[] {-1, 0, 0}));
        List<Val[]> arrays = new ArrayList<>();
        int trap;
        int went;
        int all;
        boolean begun;

        static int[] ints(List<Integer> list) {
            return list.stream().mapToInt(i -> i).toArray();
        }

        boolean isNode(int i) {
            return i >= 0 && i < nodes.size();
        }

        boolean isPort(int node, int port) {
            return isNode(node) && port >= 0 && port < PORTS[nodes.get(node)[0]];
        }

        int node(int op, int n) {
            if (op < 0 || op > 17) {
                throw new IllegalArgumentException();
            }
            if (nodes.size() == 40 || begun) {
                throw new IllegalStateException();
            }
            nodes.add(new int[] {op, n});
            return nodes.size() - 1;
        }

        boolean arc(int from, int side, int to, int port) {
            if (begun || !isNode(from) || !isPort(to, port)) {
                return false;
            }
            if (side != 0 && !(side == 1 && nodes.get(from)[0] == 7)) {
                return false;
            }
            if (arcs.stream().filter(a -> a[0] == from).count() == 6) {
                return false;
            }
            arcs.add(new int[] {from, side, to, port});
            return true;
        }

        boolean token(int node, int port, long v) {
            if (trap != 0 || !isPort(node, port)) {
                return false;
            }
            begun = true;
            try {
                come(node, port, new Val(0, v), 0);
            } catch (Trap t) {
                trap = t.kind;
            }
            return true;
        }

        void come(int node, int port, Val v, int context) {
            if (waits.containsKey(List.of(node, context, port))) {
                throw new Trap(1);
            }
            if (waits.size() + ready.size() + kept.size() >= 300) {
                throw new Trap(2);
            }
            waits.put(List.of(node, context, port), v);
            int ports = PORTS[nodes.get(node)[0]];
            Val[] came = new Val[3];
            for (int p = 0; p < ports; p++) {
                came[p] = waits.get(List.of(node, context, p));
                if (came[p] == null) {
                    return;
                }
            }
            for (int p = 0; p < ports; p++) {
                waits.remove(List.of(node, context, p));
            }
            ready.add(new Object[] {node, context, came});
        }

        int run(int n, long pick) {
            if (n < 1 || n > 500) {
                throw new IllegalArgumentException();
            }
            if (all == 5000) {
                throw new IllegalStateException();
            }
            int count = 0;
            for (long p = pick; count < n && trap == 0 && !ready.isEmpty() && all < 5000; p = p * 25214903917L + 11) {
                Object[] r = ready.remove((int) Long.remainderUnsigned(p >>> 1, ready.size()));
                count++;
                went++;
                all++;
                try {
                    go((Integer) r[0], (Integer) r[1], (Val[]) r[2]);
                } catch (Trap t) {
                    trap = t.kind;
                }
            }
            return count;
        }

        void give(int node, Val v, int context) {
            for (int[] a : arcs) {
                if (a[0] == node) {
                    come(a[2], a[3], v, context);
                }
            }
        }

        void giveSide(int node, int side, Val v, int context) {
            for (int[] a : arcs) {
                if (a[0] == node && a[1] == side) {
                    come(a[2], a[3], v, context);
                }
            }
        }

        int contextOf(int in, int site, int round) {
            for (int c = 1; c < contexts.size(); c++) {
                if (Arrays.equals(contexts.get(c), new int[] {in, site, round})) {
                    return c;
                }
            }
            if (contexts.size() == 151) {
                throw new Trap(2);
            }
            contexts.add(new int[] {in, site, round});
            return contexts.size() - 1;
        }

        Val errorFor(int op, Val x, Val y) {
            boolean passes = op == 0 || op >= 8 && op <= 13 || op == 17;
            if (op == 7) {
                return null;
            }
            long least = 9;
            if (!passes && x.kind == 1) {
                least = Math.min(least, x.num);
            }
            if (y != null && y.kind == 1) {
                least = Math.min(least, y.num);
            }
            if (least < 9) {
                return new Val(1, least);
            }
            boolean numberX = op >= 1 && op <= 5 || op == 14;
            boolean arrayX = op == 15 || op == 16;
            if (numberX && x.kind == 2 || arrayX && x.kind == 0 || y != null && y.kind == 2) {
                return new Val(1, 4);
            }
            return null;
        }

        void go(int node, int c, Val[] came) {
            int op = nodes.get(node)[0];
            int n = nodes.get(node)[1];
            int[] con = contexts.get(c);
            Val x = came[0];
            Val y = came[1];
            Val error = errorFor(op, x, y);
            if (error != null) {
                give(node, error, c);
            } else if (op == 0) {
                give(node, x, c);
            } else if (op <= 6) {
                give(node, reckon(op, n, x.num, y == null ? 0 : y.num), c);
            } else if (op == 7 && y.kind == 0) {
                giveSide(node, y.num == 0 ? 0 : 1, x, c);
            } else if (op == 7) {
                giveSide(node, 0, y.kind == 1 ? y : new Val(1, 4), c);
                giveSide(node, 1, y.kind == 1 ? y : new Val(1, 4), c);
            } else if (op == 8) {
                give(node, x, contextOf(c, n, 0));
            } else if (op <= 11 && c == 0) {
                give(node, x, 0);
            } else if (op == 9) {
                give(node, x, contextOf(con[0], con[1], con[2] + 1));
            } else if (op == 10) {
                give(node, x, contextOf(con[0], con[1], 0));
            } else if (op == 11) {
                give(node, x, con[0]);
            } else if (op == 12) {
                if (isNode(n)) {
                    come(n, 0, x, contextOf(c, -1 - node, 0));
                }
            } else if (op == 13) {
                for (int k = 0; k < nodes.size(); k++) {
                    if (con[1] == -1 - k) {
                        give(k, x, con[0]);
                        break;
                    }
                }
            } else if (op == 17) {
                results.add(new Object[] {x, c});
            } else {
                onArrays(op, node, c, came);
            }
        }

        Val reckon(int op, int n, long x, long y) {
            switch (op) {
                case 1: return new Val(0, x + y);
                case 2: return new Val(0, x - y);
                case 3: return new Val(0, x * y);
                case 4: return y == 0 ? new Val(1, 1) : new Val(0, x / y);
                case 5: return new Val(0, x < y ? 1 : 0);
                default: return new Val(0, n);
            }
        }

        void onArrays(int op, int node, int c, Val[] came) {
            long x = came[0].num;
            if (op == 14) {
                if (x < 0 || x > 8) {
                    give(node, new Val(1, 2), c);
                    return;
                }
                if (arrays.size() == 40) {
                    throw new Trap(2);
                }
                arrays.add(new Val[(int) x]);
                give(node, new Val(2, arrays.size() - 1), c);
                return;
            }
            Val[] array = arrays.get((int) x);
            long y = came[1].num;
            if (y < 0 || y >= array.length) {
                give(node, new Val(1, 3), c);
            } else if (op == 15 && array[(int) y] != null) {
                give(node, array[(int) y], c);
            } else if (op == 15) {
                kept.add(new Object[] {x, y, node, c});
            } else if (array[(int) y] != null) {
                throw new Trap(3);
            } else {
                array[(int) y] = came[2];
                give(node, came[2], c);
                for (int i = 0; i < kept.size();) {
                    Object[] k = kept.get(i);
                    if ((Long) k[0] == x && (Long) k[1] == y) {
                        kept.remove(i);
                        give((Integer) k[2], came[2], (Integer) k[3]);
                    } else {
                        i++;
                    }
                }
            }
        }

        void clear(boolean whole) {
            if (whole) {
                nodes.clear();
                arcs.clear();
            }
            waits.clear();
            ready.clear();
            kept.clear();
            results.clear();
            contexts.clear();
            contexts.add(new int[] {-1, 0, 0});
            arrays.clear();
            trap = 0;
            went = 0;
            begun = false;
        }

        int ready(int i, int what) {
            boolean is = i >= 0 && i < ready.size() && (what == 0 || what == 1);
            return is ? (Integer) ready.get(i)[what] : -1;
        }

        long result(int i, int what) {
            if (i < 0 || i >= results.size() || what < 0 || what > 2) {
                throw new NoSuchElementException();
            }
            Val v = (Val) results.get(i)[0];
            return what == 0 ? v.kind : what == 1 ? v.num : (Integer) results.get(i)[1];
        }

        int context(int c, int what) {
            if (c < 0 || c >= contexts.size() || what < 0 || what > 2) {
                throw new NoSuchElementException();
            }
            return contexts.get(c)[what];
        }

        long cell(int a, int i, int what) {
            if (a < 0 || a >= arrays.size() || i < 0 || i >= arrays.get(a).length || what < 0 || what > 2) {
                throw new NoSuchElementException();
            }
            Val v = arrays.get(a)[i];
            if (what == 2) {
                return kept.stream().filter(k -> (Long) k[0] == a && (Long) k[1] == i).count();
            }
            return what == 0 ? (v == null ? 3 : v.kind) : v == null ? 0 : v.num;
        }

        int waiting(int node, int c) {
            if (!isNode(node) || c < 0 || c >= contexts.size()) {
                return -1;
            }
            return (int) waits.keySet().stream().filter(k -> k.get(0) == node && k.get(1) == c).count();
        }

        int total(int what) {
            int[] all10 = {nodes.size(), ready.size(), waits.size(), results.size(), contexts.size(), arrays.size(),
                kept.size(), trap, went, all};
            return what < 0 || what > 9 ? -1 : all10[what];
        }
    }

    private interface Ask {
        long answer();
    }

    private static final class Pair {
        final TokenHouse house = new TokenHouse();
        final Model model = new Model();
        final StringBuilder story = new StringBuilder();
        boolean differs;
        int calls;
        int[] traps = new int[4];
        int mostKept;

        /** What came up, so that the test can tell whether its runs try enough. */
        void note() {
            traps[model.trap]++;
            mostKept = Math.max(mostKept, model.total(6));
        }

        boolean isOver() {
            return differs || calls == MOST_CALLS;
        }

        void ask(String call, Ask a, Ask b) {
            if (isOver()) {
                return;
            }
            calls++;
            String got = told(a);
            String want = told(b);
            story.append(call).append(" = ").append(got).append('\n');
            if (!got.equals(want)) {
                differs = true;
                story.append("   due is ").append(want).append('\n');
            }
        }

        static String told(Ask ask) {
            try {
                return Long.toString(ask.answer());
            } catch (RuntimeException e) {
                return "throws." + e.getClass().getSimpleName();
            }
        }
    }

    private static long bit(boolean b) {
        return b ? 1 : 0;
    }

    /** Mostly from 0 up to below 'bound', at times a little or far outside. */
    private static int about(Random r, int bound) {
        int dice = r.nextInt(40);
        if (dice == 0) {
            return r.nextInt();
        }
        return dice == 1 ? -1 : dice == 2 ? bound : r.nextInt(Math.max(bound, 1));
    }

    private static void build(Random r, Pair p, int most, int[] ops) {
        int count = 1 + r.nextInt(most);
        for (int i = 0; i < count; i++) {
            int op = ops[r.nextInt(ops.length)];
            int n = r.nextInt(4) == 0 ? -1 - r.nextInt(count) : r.nextInt(count + 1);
            p.ask("node(" + op + ", " + n + ")", () -> p.house.node(op, n), () -> p.model.node(op, n));
        }
        int arcs = r.nextInt(4 * count + 1);
        for (int i = 0; i < arcs; i++) {
            addArc(r, p);
        }
    }

    /** One ARRAY that many FETCHES and STORES get, in the ROOT and in two other CONTEXTS, with a y made there. */
    private static void buildAroundArray(Random r, Pair p) {
        int users = 2 + r.nextInt(9);
        int end = users + 6;
        int[] ops = new int[end + 1];
        System.arraycopy(new int[] {14, 8, 9, 6, 6, 6}, 0, ops, 0, 6);
        for (int i = 6; i < end; i++) {
            ops[i] = r.nextInt(4) == 0 ? 16 : 15;
        }
        ops[end] = 17;
        for (int op : ops) {
            int n = r.nextInt(8) == 0 ? 2 : r.nextInt(2);
            p.ask("node(" + op + ", " + n + ")", () -> p.house.node(op, n), () -> p.model.node(op, n));
        }
        setArc(p, 0, 1, 0);
        setArc(p, 1, 2, 0);
        for (int level = 0; level < 3; level++) {
            setArc(p, level, 3 + level, 0);
        }
        for (int i = 6; i < end; i++) {
            int level = r.nextInt(3);
            setArc(p, level, i, 0);
            setArc(p, 3 + level, i, 1);
            setArc(p, r.nextBoolean() ? level : 3 + level, i, 2);
            setArc(p, i, end, 0);
        }
        for (int i = 0; i < 3; i++) {
            long x = r.nextInt(8) == 0 ? r.nextInt(12) - 2 : 2;
            long pick = r.nextLong();
            p.ask("token(0, 0, " + x + ")", () -> bit(p.house.token(0, 0, x)), () -> bit(p.model.token(0, 0, x)));
            for (int k = 0; k < 3; k++) {
                int n = 1 + r.nextInt(14);
                p.ask("run(" + n + ", " + pick + ")", () -> p.house.run(n, pick), () -> p.model.run(n, pick));
            }
            lookAtAll(p);
            p.note();
            clearBoth(p, false);
        }
    }

    private static void clearBoth(Pair p, boolean all) {
        p.ask("clear(" + all + ")", () -> {
            p.house.clear(all);
            return 0;
        }, () -> {
            p.model.clear(all);
            return 0;
        });
    }

    private static void setArc(Pair p, int from, int to, int port) {
        p.ask("arc(" + from + ", 0, " + to + ", " + port + ")",
                () -> bit(p.house.arc(from, 0, to, port)), () -> bit(p.model.arc(from, 0, to, port)));
    }

    private static void addArc(Random r, Pair p) {
        int from = about(r, p.model.nodes.size());
        int to = about(r, p.model.nodes.size());
        int fromOp = p.model.isNode(from) ? p.model.nodes.get(from)[0] : -1;
        // An ARRAY is of use only where FETCH and STORE get it: random ARCS alone hardly ever lead there.
        for (int k = 0; fromOp == 14 && k < 6 && !(p.model.isNode(to) && p.model.nodes.get(to)[0] / 2 >= 7); k++) {
            to = r.nextInt(p.model.nodes.size());
        }
        int toOp = p.model.isNode(to) ? p.model.nodes.get(to)[0] : -1;
        int side = r.nextInt(5) == 0 || fromOp == 7 ? r.nextInt(2) : 0;
        int port = fromOp == 14 && r.nextInt(6) != 0 ? 0 : about(r, toOp < 0 ? 3 : Model.PORTS[toOp]);
        int target = to;
        p.ask("arc(" + from + ", " + side + ", " + to + ", " + port + ")",
                () -> bit(p.house.arc(from, side, target, port)), () -> bit(p.model.arc(from, side, target, port)));
    }

    private static void addToken(Random r, Pair p) {
        int node = about(r, p.model.nodes.size());
        int port = about(r, p.model.isNode(node) ? Model.PORTS[p.model.nodes.get(node)[0]] : 3);
        if (p.model.isPort(node, port) && r.nextInt(12) != 0) {
            for (int k = 0; k < 3 && p.model.waits.containsKey(List.of(node, 0, port)); k++) {
                port = (port + 1) % Model.PORTS[p.model.nodes.get(node)[0]];
            }
        }
        long v = r.nextInt(12) == 0 ? r.nextLong() : r.nextInt(port == 1 ? 3 : 9) - r.nextInt(2);
        int chosen = port;
        p.ask("token(" + node + ", " + port + ", " + v + ")",
                () -> bit(p.house.token(node, chosen, v)), () -> bit(p.model.token(node, chosen, v)));
    }

    private static void look(Random r, Pair p) {
        Model m = p.model;
        int what = r.nextInt(20) == 0 ? r.nextInt(6) - 2 : r.nextInt(3);
        int i;
        int j;
        switch (r.nextInt(5)) {
            case 0: i = about(r, m.ready.size());
                p.ask("ready(" + i + ", " + what + ")", () -> p.house.ready(i, what), () -> m.ready(i, what));
                break;
            case 1: i = about(r, m.results.size());
                p.ask("result(" + i + ", " + what + ")", () -> p.house.result(i, what), () -> m.result(i, what));
                break;
            case 2: i = about(r, m.contexts.size());
                p.ask("context(" + i + ", " + what + ")", () -> p.house.context(i, what), () -> m.context(i, what));
                break;
            case 3: i = about(r, m.arrays.size());
                j = about(r, 8);
                p.ask("cell(" + i + ", " + j + ", " + what + ")",
                        () -> p.house.cell(i, j, what), () -> m.cell(i, j, what));
                break;
            default: i = about(r, m.nodes.size());
                j = about(r, m.contexts.size());
                p.ask("waiting(" + i + ", " + j + ")", () -> p.house.waiting(i, j), () -> m.waiting(i, j));
                break;
        }
    }

    private static void lookAtAll(Pair p) {
        Model m = p.model;
        for (int w = -1; w <= 10; w++) {
            int what = w;
            p.ask("total(" + what + ")", () -> p.house.total(what), () -> m.total(what));
        }
        for (int k = 0; k < 3; k++) {
            int what = k;
            for (int a = 0; a <= m.ready.size(); a++) {
                int i = a;
                p.ask("ready(" + i + ", " + what + ")", () -> p.house.ready(i, what), () -> m.ready(i, what));
            }
            for (int a = 0; a <= m.results.size(); a++) {
                int i = a;
                p.ask("result(" + i + ", " + what + ")", () -> p.house.result(i, what), () -> m.result(i, what));
            }
            for (int a = 0; a <= m.contexts.size(); a++) {
                int i = a;
                p.ask("context(" + i + ", " + what + ")", () -> p.house.context(i, what), () -> m.context(i, what));
            }
            for (int a = 0; a < 9 * m.arrays.size(); a++) {
                int i = a / 9;
                int j = a % 9;
                p.ask("cell(" + i + ", " + j + ", " + what + ")",
                        () -> p.house.cell(i, j, what), () -> m.cell(i, j, what));
            }
        }
        for (int a = 0; a < m.nodes.size() * Math.min(m.contexts.size(), 12); a++) {
            int i = a % m.nodes.size();
            int j = a / m.nodes.size();
            p.ask("waiting(" + i + ", " + j + ")", () -> p.house.waiting(i, j), () -> m.waiting(i, j));
        }
    }

    private static void step(Random r, Pair p, int[] ops) {
        int dice = r.nextInt(p.model.trap != 0 ? 120 : 98);
        if (dice < 45) {
            addToken(r, p);
        } else if (dice < 65) {
            int n = r.nextInt(30) == 0 ? r.nextInt(600) - 20 : 1 + r.nextInt(r.nextInt(4) == 0 ? 60 : 6);
            long pick = r.nextInt(3) == 0 ? 0L : r.nextLong();
            p.ask("run(" + n + ", " + pick + ")", () -> p.house.run(n, pick), () -> p.model.run(n, pick));
        } else if (dice < 93) {
            look(r, p);
        } else if (dice < 95) {
            int op = about(r, 18);
            p.ask("node(" + op + ", 1)", () -> p.house.node(op, 1), () -> p.model.node(op, 1));
        } else if (dice < 97) {
            addArc(r, p);
        } else {
            boolean all = r.nextInt(3) == 0;
            p.note();
            clearBoth(p, all);
            if (all) {
                build(r, p, 12, ops);
            }
        }
    }

    private static final int[] EVERY = {0, 1, 2, 3, 4, 5, 6, 7, 8, 9, 10, 11, 12, 13, 14, 15, 16, 17};
    private static final int[][] FAVOURS = {
        EVERY,
        {0, 1, 2, 3, 4, 5, 6, 7, 17},
        {0, 6, 8, 8, 9, 10, 11, 12, 13, 17, 7},
        {14, 14, 15, 15, 16, 16, 17, 6, 0},
        {14, 15, 16, 8, 9, 12, 13, 11, 6, 1, 17},
        {12, 13, 13, 8, 7, 17, 0, 6},
    };

    private static Pair played(int run) {
        Random r = new Random(run);
        Pair p = new Pair();
        int[] ops = FAVOURS[r.nextInt(FAVOURS.length)];
        if (run % 4 == 0) {
            buildAroundArray(r, p);
        } else {
            build(r, p, r.nextInt(6) == 0 ? 39 : 10, ops);
        }
        for (int call = 0; call < STEPS && !p.isOver(); call++) {
            step(r, p, ops);
            if (call % 25 == 24) {
                lookAtAll(p);
            }
        }
        p.note();
        return p;
    }

    public static void main(String[] args) {
        int[] traps = new int[4];
        int mostKept = 0;
        for (int run = 0; run < RUNS; run++) {
            Pair p = played(run);
            if (p.differs) {
                System.out.println("run " + run + ":");
                System.out.print(p.story);
                System.exit(1);
            }
            mostKept = Math.max(mostKept, p.mostKept);
            for (int i = 0; i < traps.length; i++) {
                traps[i] += p.traps[i];
            }
        }
        System.out.println("all answers are the model's; ends in TRAP 0 to 3: " + Arrays.toString(traps)
                + ", most kept at once: " + mostKept);
        for (int seen : traps) {
            if (seen < 20 || mostKept < 3) {
                System.out.println("the runs try too little");
                System.exit(1);
            }
        }
    }
}
