import java.util.ArrayList;
import java.util.Arrays;
import java.util.Collections;
import java.util.List;
import java.util.Random;

/**
 * The document's first sentence: whichever NODE goes first, what comes of it is the same, but for the numbers of
 * CONTEXTS and ARRAYS and the order of RESULTS, 'if no two TOKENS ever come to one PORT in one CONTEXT, and there is
 * no TRAP'. Random graphs of which the first is true by how they are made: no PORT has two ARCS (or an ARC and a
 * TOKEN), there are no circles, and a NODE that is called has no other way in. Those with a TRAP are left out.
 */
public final class AnyOrderTest extends Check {
    private static final int GRAPHS = 3000;
    private static final int ORDERS = 12;
    private static final int MOST_NODES = 30;
    private static final int NO_NODE = 40;
    private static final int MOST_LOOKS = 200;
    private static final int DEPTH = 3;
    private static final int[] OPS_INSIDE = {0, 1, 2, 4, 5, 6, 7, 8, 9, 10, 12, 12, 14, 15, 15, 16};
    private static final int[] OPS_OUTSIDE = {0, 1, 2, 3, 4, 5, 6, 7, 8, 8, 9, 10, 11, 12, 12, 12, 14, 14, 15, 15, 15,
        15, 15, 16, 16, 16, 17, 17};

    /** What a NODE gives on a side: where (a guess at its CONTEXT) and whether it may be an ARRAY. */
    private static final class Output {
        final int node;
        final int side;
        final String where;
        final boolean isArray;

        Output(int node, int side, String where, boolean isArray) {
            this.node = node;
            this.side = side;
            this.where = where;
            this.isArray = isArray;
        }
    }

    /** The calls that build a graph and bring its TOKENS, so that it can be built again on a new object. */
    private static final class Plan {
        final Random r;
        final List<int[]> nodes = new ArrayList<>();
        final List<int[]> arcs = new ArrayList<>();
        final List<long[]> tokens = new ArrayList<>();
        final List<Integer> called = new ArrayList<>();
        List<Output> outputs = new ArrayList<>();

        Plan(Random r) {
            this.r = r;
            for (int functions = r.nextInt(3); functions > 0; functions--) {
                addFunction();
            }
            outputs = new ArrayList<>();
            for (int count = 12 + r.nextInt(MOST_NODES - 12); nodes.size() < count;) {
                addNode(OPS_OUTSIDE[r.nextInt(OPS_OUTSIDE.length)], true);
            }
            Collections.shuffle(tokens, r);
        }

        int arcsFrom(int node) {
            return (int) arcs.stream().filter(a -> a[0] == node).count();
        }

        /** It can call only those made before it, so there is an end. */
        void addFunction() {
            int entry = nodes.size();
            nodes.add(new int[] {SAME, 0});
            outputs = new ArrayList<>();
            outputs.add(new Output(entry, 0, "call", r.nextBoolean()));
            for (int more = r.nextInt(5); more > 0; more--) {
                addNode(OPS_INSIDE[r.nextInt(OPS_INSIDE.length)], false);
            }
            addNode(RETURN, false);
            called.add(entry);
        }

        void addNode(int op, boolean isOutside) {
            int node = nodes.size();
            boolean usesArray = op == FETCH || op == STORE;
            nodes.add(new int[] {op, op == CALL ? toCall() : r.nextInt(3)});
            Output first = null;
            for (int port = 0; port < PORTS[op]; port++) {
                boolean byToken = isOutside && (outputs.isEmpty() || op == ARRAY || r.nextInt(port == 1 ? 3 : 6) == 0);
                Output source;
                if (usesArray && first != null && arcsFrom(first.node) < 6 && r.nextInt(4) != 0) {
                    source = constantBeside(first);
                } else {
                    source = byToken ? null : source(first, op, port);
                }
                if (source == null) {
                    addToken(node, op, port, isOutside);
                } else {
                    arcs.add(new int[] {source.node, source.side, node, port});
                    first = first == null ? source : first;
                }
            }
            addOutputs(node, op, first == null ? new Output(node, 0, "", false) : first);
        }

        /** A cell's place, or what it is to have, in the CONTEXT in which the ARRAY is. */
        Output constantBeside(Output beside) {
            int node = nodes.size();
            nodes.add(new int[] {CONSTANT, r.nextInt(3)});
            arcs.add(new int[] {beside.node, beside.side, node, 0});
            return new Output(node, 0, beside.where, false);
        }

        /** Where none can be called: a NODE that is not there, so that the TOKEN is lost. */
        int toCall() {
            return called.isEmpty() ? NO_NODE : called.get(r.nextInt(called.size()));
        }

        void addToken(int node, int op, int port, boolean isOutside) {
            if (isOutside && r.nextInt(40) != 0) {
                tokens.add(new long[] {node, port, op == ARRAY ? lengthOfArray() : r.nextInt(3)});
            }
        }

        int lengthOfArray() {
            return r.nextInt(8) == 0 ? r.nextInt(10) : 2;
        }

        boolean fits(Output one, Output beside, int op, int port) {
            boolean takesAll = op == SAME || op >= SWITCH && op <= CALL && port == 0;
            boolean wantsArray = (op == FETCH || op == STORE) && port == 0;
            return (beside == null || one.where.equals(beside.where)) && (takesAll || one.isArray == wantsArray);
        }

        /** Mostly one in the CONTEXT of the other PORTS: others would WAIT for ever. */
        Output source(Output beside, int op, int port) {
            Output found = null;
            for (int tries = 0; tries < 30; tries++) {
                Output one = outputs.get(r.nextInt(outputs.size()));
                if (arcsFrom(one.node) < 6) {
                    found = one;
                    if (fits(one, beside, op, port) || r.nextInt(20) == 0) {
                        return one;
                    }
                }
            }
            return found;
        }

        void addOutputs(int node, int op, Output in) {
            boolean same = op == SAME || op >= SWITCH && op <= CALL;
            String where = in.where;
            if (op == ENTER) {
                where = where + "/" + node;
            } else if (op == NEXT || op == FIRST) {
                where = where + ":" + node;
            } else if (op == LEAVE) {
                where = where.substring(0, Math.max(where.lastIndexOf('/'), 0));
            }
            for (int side = 0; op != END && op != RETURN && side <= (op == SWITCH ? 1 : 0); side++) {
                outputs.add(new Output(node, side, where, op == ARRAY || same && in.isArray));
            }
        }

        House built() {
            House h = new House();
            for (int[] node : nodes) {
                h.node(node[0], node[1]);
            }
            for (int[] arc : arcs) {
                due("an ARC of a plan", h.arc(arc[0], arc[1], arc[2], arc[3]), true);
            }
            return h;
        }
    }

    /** What a graph came to, free of the numbers of CONTEXTS and ARRAYS and of any order. */
    private static final class End {
        final House house;

        End(House house) {
            this.house = house;
        }

        String path(int context) {
            if (context == 0) {
                return "";
            }
            return path(house.context(context, 0)) + "/" + house.context(context, 1) + ":" + house.context(context, 2);
        }

        String value(long kind, long number, int depth) {
            return kind == 2 ? array((int) number, depth + 1) : "nexx".charAt((int) kind) + "" + number;
        }

        /** An ARRAY may stand in itself: so only some levels. */
        String array(int array, int depth) {
            StringBuilder s = new StringBuilder("[");
            for (int i = 0; depth <= DEPTH && hasCell(house, array, i); i++) {
                s.append(value(house.cell(array, i, 0), house.cell(array, i, 1), depth)).append('+');
                s.append(house.cell(array, i, 2)).append(' ');
            }
            return s.append(']').toString();
        }

        String sorted(String name, List<String> parts) {
            Collections.sort(parts);
            return name + parts + "\n";
        }

        String text() {
            StringBuilder s = new StringBuilder();
            for (int what = 0; what <= 9; what++) {
                s.append(house.total(what)).append(' ');
            }
            List<String> results = new ArrayList<>();
            for (int i = 0; i < house.total(3); i++) {
                results.add(value(house.result(i, 0), house.result(i, 1), 0) + "@" + path((int) house.result(i, 2)));
            }
            s.append(sorted("RESULTS ", results));
            List<String> arrays = new ArrayList<>();
            for (int a = 0; a < house.total(5); a++) {
                arrays.add(array(a, 0));
            }
            return s.append(sorted("ARRAYS ", arrays)).append(sorted("CONTEXTS ", contexts())).toString();
        }

        /** The CONTEXTS, each with what WAITS there if that can be asked in few calls. */
        List<String> contexts() {
            List<String> found = new ArrayList<>();
            int nodes = house.total(0);
            int count = house.total(4);
            for (int c = 0; c < count; c++) {
                StringBuilder s = new StringBuilder(path(c));
                for (int node = 0; node < nodes && nodes * count <= MOST_LOOKS; node++) {
                    s.append(',').append(house.waiting(node, c));
                }
                found.add(s.toString());
            }
            return found;
        }
    }

    /** The TOKENS come in one order or another, some before NODES go and some behind that. */
    private static House gone(Plan plan, Random r, boolean first) {
        House h = plan.built();
        List<long[]> tokens = new ArrayList<>(plan.tokens);
        if (!first) {
            Collections.shuffle(tokens, r);
        }
        for (long[] token : tokens) {
            h.token((int) token[0], (int) token[1], token[2]);
            if (!first && r.nextInt(3) == 0) {
                h.run(1 + r.nextInt(5), r.nextLong());
            }
        }
        h.run(500, first ? 0L : r.nextLong());
        due("READY at the end, or a TRAP", h.total(1) == 0 || h.total(7) != 0, true);
        return h;
    }

    private static String told(Plan plan) {
        StringBuilder s = new StringBuilder();
        plan.nodes.forEach(n -> s.append(Arrays.toString(n)));
        plan.arcs.forEach(a -> s.append(Arrays.toString(a)));
        plan.tokens.forEach(t -> s.append(Arrays.toString(t)));
        return s.toString();
    }

    static void everyOrderComesToTheSame() {
        int[] seen = new int[10];
        int traps = 0;
        for (int graph = 0; graph < GRAPHS; graph++) {
            Plan plan = new Plan(new Random(graph));
            House h = gone(plan, new Random(graph), true);
            if (h.total(7) != 0) {
                traps++;
                continue;
            }
            for (int what = 0; what < seen.length; what++) {
                seen[what] += h.total(what) > (what == 4 ? 1 : 0) ? 1 : 0;
            }
            String first = new End(h).text();
            Random r = new Random(-1 - graph);
            for (int order = 0; order < ORDERS; order++) {
                String other = new End(gone(plan, r, false)).text();
                due("graph " + graph + " in order " + order + (other.equals(first) ? "" : told(plan)), other, first);
            }
        }
        System.out.println("graphs with a TRAP: " + traps + ", with WAITING, RESULTS, CONTEXTS, ARRAYS, kept: "
                + Arrays.toString(Arrays.copyOfRange(seen, 2, 7)));
        for (int what = 2; what <= 6; what++) {
            due("enough graphs with total " + what, seen[what] > GRAPHS / 20, true);
        }
    }

    public static void main(String[] args) {
        runAll(AnyOrderTest.class);
    }
}
