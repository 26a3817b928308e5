import java.lang.reflect.InvocationTargetException;
import java.lang.reflect.Method;
import java.lang.reflect.Modifier;
import java.util.Arrays;
import java.util.Comparator;

/** What the tests share: names of OPS, texts of what an object tells, and checks. */
abstract class Check {
    static final int SAME = 0, PLUS = 1, MINUS = 2, TIMES = 3, DIVIDE = 4, LESS = 5, CONSTANT = 6, SWITCH = 7,
            ENTER = 8, NEXT = 9, FIRST = 10, LEAVE = 11, CALL = 12, RETURN = 13, ARRAY = 14, FETCH = 15,
            STORE = 16, END = 17;
    static final int OPS = 18;
    static final int[] PORTS = {1, 2, 2, 2, 2, 2, 1, 2, 1, 1, 1, 1, 1, 1, 1, 2, 3, 1};
    static final int LOW = Integer.MIN_VALUE;
    static final int TOP = Integer.MAX_VALUE;
    static final String FINE = "nothing";
    static final String ARGUMENT = "IllegalArgumentException";
    static final String STATE = "IllegalStateException";
    static final String ELEMENT = "NoSuchElementException";
    private static final int NO_FEEDER = -1;
    private static int wrong = 0;

    interface Act {
        void go();
    }

    static void due(String what, Object got, Object want) {
        if (!String.valueOf(got).equals(String.valueOf(want))) {
            wrong++;
            System.out.println(what + ": got " + got + ", due is " + want);
        }
    }

    static String thrown(Act act) {
        try {
            act.go();
        } catch (RuntimeException e) {
            return e.getClass().getSimpleName();
        }
        return FINE;
    }

    /** Every static method of a test class without parameters and without an answer is a test. */
    static void runAll(Class<?> tests) {
        Method[] all = tests.getDeclaredMethods();
        Arrays.sort(all, Comparator.comparing(Method::getName));
        int count = 0;
        for (Method m : all) {
            boolean isTest = Modifier.isStatic(m.getModifiers()) && m.getParameterCount() == 0
                    && m.getReturnType() == void.class && !m.isSynthetic();
            if (isTest) {
                count++;
                runOne(m);
            }
        }
        System.out.println(wrong == 0 ? count + " tests, all answers are as due" : wrong + " answers are not as due");
        if (wrong != 0) {
            System.exit(1);
        }
    }

    private static void runOne(Method test) {
        try {
            test.setAccessible(true);
            test.invoke(null);
        } catch (InvocationTargetException e) {
            wrong++;
            System.out.println(test.getName() + " ended by " + e.getCause());
        } catch (IllegalAccessException e) {
            wrong++;
            System.out.println(test.getName() + " could not be run");
        }
    }

    /** An object with NODES 0, 1, .. of these OPS, each with n 0. */
    static House with(int... ops) {
        House h = new House();
        for (int op : ops) {
            h.node(op, 0);
        }
        return h;
    }

    /** Always the first of those that are READY, whatever pick would become: how many went. */
    static int inTurn(House h, int most) {
        int went = 0;
        while (went < most && h.run(1, 0L) == 1) {
            went++;
        }
        return went;
    }

    /** All totals in one text, in the order of 'what'. */
    static String totals(House h) {
        StringBuilder s = new StringBuilder();
        for (int what = 0; what <= 9; what++) {
            s.append(what == 0 ? "" : " ").append(h.total(what));
        }
        return s.toString();
    }

    /** All RESULTS: n, e or a (number, ERROR, ARRAY), what it is, and its CONTEXT. */
    static String results(House h) {
        StringBuilder s = new StringBuilder();
        int count = h.total(3);
        for (int i = 0; i < count; i++) {
            s.append(i == 0 ? "" : " ").append("nea".charAt((int) h.result(i, 0)));
            s.append(h.result(i, 1)).append('@').append(h.result(i, 2));
        }
        return s.toString();
    }

    static String cell(House h, int array, int i) {
        return h.cell(array, i, 0) + "," + h.cell(array, i, 1) + "," + h.cell(array, i, 2);
    }

    static String context(House h, int c) {
        return h.context(c, 0) + "," + h.context(c, 1) + "," + h.context(c, 2);
    }

    /** All that are READY, in their places: NODE and CONTEXT. */
    static String readies(House h) {
        StringBuilder s = new StringBuilder();
        int count = h.total(1);
        for (int i = 0; i < count; i++) {
            s.append(i == 0 ? "" : " ").append(h.ready(i, 0)).append('@').append(h.ready(i, 1));
        }
        return s.toString();
    }

    /** How many WAIT, NODE by NODE and in each CONTEXT by CONTEXT. */
    static String waitings(House h) {
        StringBuilder s = new StringBuilder();
        int nodes = h.total(0);
        int contexts = h.total(4);
        for (int node = 0; node < nodes; node++) {
            for (int c = 0; c < contexts; c++) {
                s.append(h.waiting(node, c)).append(c + 1 < contexts ? "," : " ");
            }
        }
        return s.toString().trim();
    }

    /** All that an object with a small GRAPH tells, but for its ARCS. */
    static String state(House h) {
        StringBuilder s = new StringBuilder(totals(h));
        s.append(" / ").append(readies(h)).append(" / ").append(results(h)).append(" / ").append(waitings(h));
        for (int c = 0; c < h.total(4); c++) {
            s.append(" / ").append(context(h, c));
        }
        for (int a = 0; a < h.total(5); a++) {
            for (int i = 0; hasCell(h, a, i); i++) {
                s.append(" / ").append(cell(h, a, i));
            }
        }
        return s.toString();
    }

    static boolean hasCell(House h, int array, int i) {
        return thrown(() -> h.cell(array, i, 0)).equals(FINE);
    }

    /** What an OP makes of its inputs: a text like "n5@0"; an input is a number, or "e1".."e4", or "a" (an ARRAY of 2). */
    static String made(int op, int n, Object... inputs) {
        House h = new House();
        int node = h.node(op, n);
        int end = h.node(END, 0);
        h.arc(node, 0, end, 0);
        comeTo(h, node, inputs);
        h.run(500, 0L);
        return results(h);
    }

    /** Inputs come to the PORTS of a NODE; the NODES that make them are added first. */
    static void comeTo(House h, int node, Object... inputs) {
        int[] source = new int[inputs.length];
        for (int i = 0; i < inputs.length; i++) {
            source[i] = inputs[i] instanceof String ? feeder(h, (String) inputs[i], node, i) : NO_FEEDER;
        }
        for (int i = 0; i < inputs.length; i++) {
            if (source[i] == NO_FEEDER) {
                h.token(node, i, ((Number) inputs[i]).longValue());
            } else {
                feed(h, source[i], (String) inputs[i]);
            }
        }
    }

    static int feeder(House h, String input, int node, int port) {
        int first = h.node(input.equals("e1") ? DIVIDE : ARRAY, 0);
        int last = first;
        if (input.equals("e3") || input.equals("e4")) {
            last = h.node(input.equals("e3") ? FETCH : PLUS, 0);
            h.arc(first, 0, last, 0);
        }
        h.arc(last, 0, node, port);
        return first;
    }

    static void feed(House h, int first, String input) {
        switch (input) {
            case "e1": h.token(first, 0, 1L); h.token(first, 1, 0L); break;
            case "e2": h.token(first, 0, 9L); break;
            case "e3":
            case "e4": h.token(first, 0, 2L); h.token(first + 1, 1, 2L); break;
            default: h.token(first, 0, 2L); break;
        }
    }
}
