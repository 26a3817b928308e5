import java.util.Arrays;
import java.util.Random;

/** Whichever NODE goes first, a graph without a TRAP comes to the same end. */
public final class OrderTest {
    private static final int SAME = 0, PLUS = 1, MINUS = 2, TIMES = 3, LESS = 5, CONSTANT = 6, SWITCH = 7,
            ENTER = 8, NEXT = 9, LEAVE = 11, CALL = 12, RETURN = 13, ARRAY = 14, FETCH = 15, STORE = 16, END = 17;
    private static int wrong = 0;

    private interface Graph {
        void build(House h);
    }

    private static void must(boolean held, String what) {
        if (!held) {
            wrong++;
            System.out.println(what);
        }
    }

    private static void arc(House h, int from, int side, int to, int port) {
        must(h.arc(from, side, to, port), "arc(" + from + ", " + side + ", " + to + ", " + port + ") is false");
    }

    /** A value that goes round: it comes in by 'in', is there each ROUND at 'now', goes on by 'next', out by 'out'. */
    private static final class Loop {
        final int in;
        final int now;
        final int choose;
        final int next;

        Loop(House h) {
            in = h.node(ENTER, 1);
            now = h.node(SAME, 0);
            choose = h.node(SWITCH, 0);
            next = h.node(NEXT, 0);
            arc(h, in, 0, now, 0);
            arc(h, now, 0, choose, 0);
            arc(h, next, 0, now, 0);
        }
    }

    /** The sum of 1 .. 30, in 31 ROUNDS. */
    private static void sum(House h) {
        Loop i = new Loop(h);
        Loop s = new Loop(h);
        Loop k = new Loop(h);
        int done = h.node(LESS, 0);
        arc(h, k.now, 0, done, 0);
        arc(h, i.now, 0, done, 1);
        for (Loop each : new Loop[] {i, s, k}) {
            arc(h, done, 0, each.choose, 1);
        }
        int one = h.node(CONSTANT, 1);
        int more = h.node(PLUS, 0);
        int sum = h.node(PLUS, 0);
        int leave = h.node(LEAVE, 0);
        int end = h.node(END, 0);
        arc(h, i.choose, 0, one, 0);
        arc(h, i.choose, 0, more, 0);
        arc(h, one, 0, more, 1);
        arc(h, more, 0, i.next, 0);
        arc(h, i.choose, 0, sum, 0);
        arc(h, s.choose, 0, sum, 1);
        arc(h, sum, 0, s.next, 0);
        arc(h, k.choose, 0, k.next, 0);
        arc(h, s.choose, 1, leave, 0);
        arc(h, leave, 0, end, 0);
        h.token(i.in, 0, 1L);
        h.token(s.in, 0, 0L);
        h.token(k.in, 0, 30L);
    }

    /** 12! and 9! by CALLS in CALLS. */
    private static void factorials(House h) {
        int first = h.node(CALL, 2);
        int second = h.node(CALL, 2);
        int x = h.node(SAME, 0);
        int one = h.node(CONSTANT, 1);
        int small = h.node(LESS, 0);
        int two = h.node(CONSTANT, 2);
        int choose = h.node(SWITCH, 0);
        int end = h.node(END, 0);
        int minus = h.node(MINUS, 0);
        int inner = h.node(CALL, 2);
        int times = h.node(TIMES, 0);
        int back = h.node(RETURN, 0);
        int base = h.node(CONSTANT, 1);
        arc(h, x, 0, two, 0);
        arc(h, x, 0, small, 0);
        arc(h, two, 0, small, 1);
        arc(h, x, 0, choose, 0);
        arc(h, small, 0, choose, 1);
        arc(h, choose, 1, base, 0);
        arc(h, base, 0, back, 0);
        arc(h, choose, 0, one, 0);
        arc(h, choose, 0, minus, 0);
        arc(h, one, 0, minus, 1);
        arc(h, minus, 0, inner, 0);
        arc(h, choose, 0, times, 0);
        arc(h, inner, 0, times, 1);
        arc(h, times, 0, back, 0);
        arc(h, first, 0, end, 0);
        arc(h, second, 0, end, 0);
        h.token(first, 0, 12L);
        h.token(second, 0, 9L);
    }

    /** Cells 2 .. 7, each the sum of the two before it; most are fetched before they are written. */
    private static void cells(House h) {
        int array = h.node(ARRAY, 0);
        Loop i = new Loop(h);
        Loop a = new Loop(h);
        int done = h.node(LESS, 0);
        int seven = h.node(CONSTANT, 7);
        arc(h, i.now, 0, seven, 0);
        arc(h, seven, 0, done, 0);
        arc(h, i.now, 0, done, 1);
        arc(h, done, 0, i.choose, 1);
        arc(h, done, 0, a.choose, 1);
        int one = h.node(CONSTANT, 1);
        int more = h.node(PLUS, 0);
        int less = h.node(MINUS, 0);
        int lesser = h.node(MINUS, 0);
        arc(h, i.choose, 0, one, 0);
        arc(h, i.choose, 0, more, 0);
        arc(h, one, 0, more, 1);
        arc(h, more, 0, i.next, 0);
        arc(h, i.choose, 0, less, 0);
        arc(h, one, 0, less, 1);
        arc(h, less, 0, lesser, 0);
        arc(h, one, 0, lesser, 1);
        int left = h.node(FETCH, 0);
        int right = h.node(FETCH, 0);
        int plus = h.node(PLUS, 0);
        int store = h.node(STORE, 0);
        int end = h.node(END, 0);
        arc(h, a.choose, 0, a.next, 0);
        arc(h, a.choose, 0, left, 0);
        arc(h, a.choose, 0, right, 0);
        arc(h, a.choose, 0, store, 0);
        arc(h, less, 0, left, 1);
        arc(h, lesser, 0, right, 1);
        arc(h, left, 0, plus, 0);
        arc(h, right, 0, plus, 1);
        arc(h, i.choose, 0, store, 1);
        arc(h, plus, 0, store, 2);
        arc(h, store, 0, end, 0);
        int begin = h.node(STORE, 0);
        int second = h.node(STORE, 0);
        arc(h, array, 0, a.in, 0);
        arc(h, array, 0, begin, 0);
        arc(h, array, 0, second, 0);
        h.token(array, 0, 8L);
        h.token(i.in, 0, 2L);
        h.token(begin, 1, 0L);
        h.token(begin, 2, 1L);
        h.token(second, 1, 1L);
        h.token(second, 2, 1L);
    }

    /** The end: all totals but that of all goings, and the RESULTS, sorted. */
    private static String end(Graph graph, long pick, int step) {
        House h = new House();
        graph.build(h);
        Random r = new Random(pick);
        int rounds = 0;
        while (h.run(step, r.nextLong()) > 0 && rounds < 4000) {
            rounds++;
        }
        must(h.total(7) == 0, "there was a TRAP");
        long[] numbers = new long[h.total(3)];
        for (int i = 0; i < numbers.length; i++) {
            must(h.result(i, 0) == 0, "a RESULT is no number");
            numbers[i] = h.result(i, 1);
        }
        Arrays.sort(numbers);
        StringBuilder s = new StringBuilder(Arrays.toString(numbers));
        for (int what = 1; what <= 8; what++) {
            s.append(' ').append(h.total(what));
        }
        return s.toString();
    }

    private static void sameEnd(String name, Graph graph, String numbers) {
        String first = end(graph, 0L, 1);
        must(first.startsWith(numbers + " 0 0 "), name + " comes to " + first);
        for (int pick = 1; pick < 200; pick++) {
            String other = end(graph, pick, 1 + pick % 37);
            must(other.equals(first), name + " with " + pick + " comes to " + other + ", not to " + first);
        }
    }

    public static void main(String[] args) {
        sameEnd("sum", OrderTest::sum, "[465]");
        sameEnd("factorials", OrderTest::factorials, "[362880, 479001600]");
        sameEnd("cells", OrderTest::cells, "[2, 3, 5, 8, 13, 21]");
        System.out.println(wrong == 0 ? "every order comes to the same end" : wrong + " things are not as due");
        if (wrong != 0) {
            System.exit(1);
        }
    }
}
