/** Each promise by itself: ordinary inputs, the edges that the document names, wrong inputs. */
public final class PromiseTest extends Check {
    private static void newObject() {
        House h = new House();
        due("1 totals", totals(h), "0 0 0 0 1 0 0 0 0 0");
        due("1 ready", h.ready(0, 0), -1);
        due("1 root", context(h, 0), "-1,0,0");
        due("1 run", h.run(500, -1L), 0);
        due("1 NONE", TokenHouse.NONE, -1);
        due("1 waiting", h.waiting(0, 0), -1);
        due("1 result", thrown(() -> h.result(0, 0)), "NoSuchElementException");
        due("1 cell", thrown(() -> h.cell(0, 0, 0)), "NoSuchElementException");
    }

    private static void nodes() {
        House h = new House();
        for (int op : new int[] {-1, 18, Integer.MIN_VALUE, Integer.MAX_VALUE}) {
            due("2 op " + op, thrown(() -> h.node(op, 0)), "IllegalArgumentException");
        }
        for (int i = 0; i < 40; i++) {
            due("2 number", h.node(i % 18, i), i);
        }
        due("2 forty", thrown(() -> h.node(0, 0)), "IllegalStateException");
        due("2 no OP and forty", thrown(() -> h.node(18, 0)), "IllegalArgumentException");
        due("2 total", h.total(0), 40);
        House g = new House();
        g.node(PLUS, 0);
        g.token(0, 5, 1L);
        due("2 a refused token does not count", g.node(END, 0), 1);
        g.token(0, 0, 1L);
        due("2 a TOKEN has come", thrown(() -> g.node(0, 0)), "IllegalStateException");
        due("2 a TOKEN has come, no OP", thrown(() -> g.node(-1, 0)), "IllegalArgumentException");
        g.clear(false);
        due("2 after clear", g.node(0, 0), 2);
    }

    private static void arcs() {
        House h = new House();
        for (int op = 0; op < 18; op++) {
            h.node(op, 0);
        }
        for (int op = 0; op < 18; op++) {
            due("3 side 1 of " + op, h.arc(op, 1, 0, 0), op == SWITCH);
            due("3 last PORT of " + op, h.arc(0, 0, op, PORTS[op] - 1), op < 6);
            due("3 no PORT of " + op, h.arc(1, 0, op, PORTS[op]), false);
        }
        due("3 six", h.arc(0, 0, 0, 0), false);
        due("3 from", h.arc(18, 0, 0, 0) || h.arc(-1, 0, 0, 0), false);
        due("3 to", h.arc(1, 0, 18, 0) || h.arc(1, 0, -1, 0), false);
        due("3 side", h.arc(SWITCH, 2, 0, 0) || h.arc(SWITCH, -1, 0, 0) || h.arc(1, -1, 0, 0), false);
        due("3 PORT", h.arc(1, 0, 0, -1), false);
        for (int i = 0; i < 5; i++) {
            due("3 SWITCH", h.arc(SWITCH, i % 2, 0, 0), true);
        }
        due("3 six of both sides", h.arc(SWITCH, 0, 0, 0) || h.arc(SWITCH, 1, 0, 0), false);
        h.token(PLUS, 0, 1L);
        due("3 a TOKEN has come", h.arc(1, 0, 0, 0), false);
        h.clear(false);
        due("3 after clear", h.arc(1, 0, 0, 0), true);
    }

    private static void arcsInOrder() {
        House h = new House();
        for (int i = 0; i < 4; i++) {
            h.node(SAME, 0);
        }
        h.arc(0, 0, 3, 0);
        h.arc(0, 0, 1, 0);
        h.arc(0, 0, 3, 0);
        h.arc(0, 0, 2, 0);
        h.token(0, 0, 1L);
        h.run(1, 0L);
        due("3 order of ARCS", readies(h), "3@0 1@0 3@0 2@0");
    }

    private static void tokens() {
        House h = new House();
        due("4 no NODE", h.token(0, 0, 1L), false);
        h.node(STORE, 0);
        due("4 wrong", h.token(1, 0, 1L) || h.token(-1, 0, 1L) || h.token(0, 3, 1L) || h.token(0, -1, 1L), false);
        due("4 comes", h.token(0, 1, 1L) && h.token(0, 2, 1L), true);
        due("4 waits", totals(h), "1 0 2 0 1 0 0 0 0 0");
        due("4 third", h.token(0, 0, 1L), true);
        due("4 is READY", totals(h), "1 1 0 0 1 0 0 0 0 0");
        due("4 again", h.token(0, 0, 1L), true);
        due("4 a second one there", h.token(0, 0, 1L), true);
        due("4 TRAP 1", totals(h), "1 1 1 0 1 0 0 1 0 0");
        due("4 over", h.token(0, 1, 1L), false);
        due("4 nothing goes", h.run(5, 0L), 0);
        due("4 unchanged", totals(h), "1 1 1 0 1 0 0 1 0 0");
    }

    /** SAME (NODE 0, READY 'ready' times) and PLUS (NODE 1, one WAITS if 'waits'). */
    private static House filled(int ready, boolean waits) {
        House h = with(SAME, PLUS, SAME);
        h.arc(0, 0, 2, 0);
        if (waits) {
            h.token(1, 0, 1L);
        }
        for (int i = 0; i < ready; i++) {
            h.token(0, 0, i);
        }
        return h;
    }

    private static void fullStore() {
        House h = filled(299, true);
        due("4 300", totals(h), "3 299 1 0 1 0 0 0 0 0");
        due("4 one more", h.token(0, 0, 1L), true);
        due("4 TRAP 2", totals(h), "3 299 1 0 1 0 0 2 0 0");
        House g = filled(299, true);
        g.token(1, 0, 1L);
        due("4 TRAP 1 before TRAP 2", g.total(7), 1);
        House f = filled(300, false);
        due("4 partner", f.token(1, 0, 1L), true);
        due("4 TRAP 2 at a PORT that is free", totals(f), "3 300 0 0 1 0 0 2 0 0");
    }

    private static void goingMakesRoom() {
        House h = filled(300, false);
        due("5 one gone, one come", h.run(300, 0L), 300);
        due("5 no TRAP", h.total(7), 0);
    }

    private static void keptCount() {
        House h = new House();
        int array = h.node(ARRAY, 0);
        int same = h.node(SAME, 0);
        int enter = h.node(ENTER, 1);
        int next = h.node(NEXT, 0);
        int fetch = h.node(FETCH, 0);
        int zero = h.node(CONSTANT, 0);
        h.arc(array, 0, enter, 0);
        h.arc(enter, 0, next, 0);
        h.arc(next, 0, next, 0);
        h.arc(next, 0, fetch, 0);
        h.arc(next, 0, zero, 0);
        h.arc(zero, 0, fetch, 1);
        h.token(array, 0, 1L);
        for (int i = 0; i < 100; i++) {
            h.run(4, 0L);
        }
        due("5 CONTEXTS", h.total(4) <= 151 && h.total(6) > 90, true);
        int held = h.total(1) + h.total(2) + h.total(6);
        for (int i = held; i < 300; i++) {
            h.token(same, 0, 0L);
        }
        due("5 kept ones are held", h.total(7), 0);
        h.token(same, 0, 0L);
        due("5 TRAP 2 with kept ones", h.total(7), 2);
    }

    private static void runs() {
        House h = new House();
        for (int n : new int[] {0, 501, -1, Integer.MIN_VALUE, Integer.MAX_VALUE}) {
            due("5 n " + n, thrown(() -> h.run(n, 0L)), "IllegalArgumentException");
        }
        h.node(SAME, 0);
        h.arc(0, 0, 0, 0);
        h.token(0, 0, 1L);
        for (int i = 0; i < 9; i++) {
            due("5 500", h.run(500, i), 500);
        }
        h.clear(false);
        due("5 counts", totals(h), "1 0 0 0 1 0 0 0 0 4500");
        h.token(0, 0, 1L);
        due("5 499", h.run(499, 0L), 499);
        due("5 the last one", h.run(500, 0L), 1);
        due("5 5000", thrown(() -> h.run(1, 0L)), "IllegalStateException");
        due("5 5000 and wrong n", thrown(() -> h.run(0, 0L)), "IllegalArgumentException");
        due("5 counts", totals(h), "1 1 0 0 1 0 0 0 500 5000");
        h.clear(true);
        due("5 5000 for good", thrown(() -> h.run(1, 0L)), "IllegalStateException");
    }

    private static void picks() {
        long[] picks = {0L, 1L, 2L, 7L, -1L, Long.MIN_VALUE, Long.MAX_VALUE, 1234567890123L};
        for (long pick : picks) {
            House h = new House();
            int[] left = new int[7];
            for (int i = 0; i < 7; i++) {
                left[i] = h.node(END, 0);
            }
            for (int i = 0; i < 7; i++) {
                h.token(i, 0, i);
            }
            due("5 went", h.run(500, pick), 7);
            StringBuilder want = new StringBuilder();
            long p = pick;
            for (int size = 7; size > 0; size--) {
                int place = (int) Long.remainderUnsigned(p >>> 1, size);
                want.append(size == 7 ? "" : " ").append('n').append(left[place]).append("@0");
                System.arraycopy(left, place + 1, left, place, size - place - 1);
                p = p * 25214903917L + 11L;
            }
            due("5 order by pick " + pick, results(h), want);
        }
    }

    private static void trapsInRun() {
        House h = new House();
        h.node(SAME, 0);
        h.node(PLUS, 0);
        h.node(END, 0);
        h.arc(0, 0, 2, 0);
        h.arc(0, 0, 1, 0);
        h.arc(0, 0, 1, 0);
        h.arc(0, 0, 2, 0);
        h.token(0, 0, 3L);
        h.token(2, 0, 4L);
        due("5 ends by TRAP 1", h.run(9, 0L), 1);
        due("5 where it came up", totals(h), "3 2 1 0 1 0 0 1 1 1");
        due("5 stays READY", readies(h), "2@0 2@0");
        due("5 nothing more", h.run(9, 0L), 0);
    }

    private static void clears() {
        House first = new House();
        first.node(PLUS, 0);
        first.token(0, 0, 1L);
        first.clear(false);
        due("6 none WAIT", first.waiting(0, 0), 0);
        first.token(0, 0, 1L);
        due("6 no TRAP", first.total(7), 0);
        House h = new House();
        h.node(ARRAY, 0);
        h.node(FETCH, 0);
        h.node(ENTER, 4);
        h.node(END, 0);
        h.node(PLUS, 0);
        h.arc(0, 0, 1, 0);
        h.arc(0, 0, 2, 0);
        h.arc(2, 0, 3, 0);
        h.token(0, 0, 2L);
        h.token(1, 1, 1L);
        h.run(4, 0L);
        h.token(4, 0, 1L);
        h.token(3, 0, 1L);
        h.token(4, 0, 1L);
        due("6 before", totals(h), "5 1 1 1 2 1 1 1 4 4");
        h.clear(false);
        due("6 clear", totals(h), "5 0 0 0 1 0 0 0 0 4");
        due("6 waiting", h.waiting(4, 0), 0);
        due("6 no CONTEXT", h.waiting(4, 1), -1);
        due("6 no cell", thrown(() -> h.cell(0, 0, 0)), "NoSuchElementException");
        h.token(0, 0, 2L);
        due("6 ARCS stay", h.run(4, 0L), 3);
        due("6 a new ARRAY is not written", cell(h, 0, 1), "3,0,0");
        due("6 results", results(h), "a0@1");
        h.clear(true);
        due("6 all", totals(h), "0 0 0 0 1 0 0 0 0 7");
        h.node(SAME, 0);
        h.node(END, 0);
        h.token(0, 0, 1L);
        due("6 no ARCS", h.run(9, 0L), 1);
    }

    private static void readyPlaces() {
        House h = new House();
        h.node(ENTER, 3);
        h.node(SAME, 0);
        h.node(END, 0);
        h.arc(0, 0, 1, 0);
        h.token(0, 0, 1L);
        h.token(2, 0, 1L);
        h.token(1, 0, 1L);
        h.run(1, 0L);
        due("7 behind all", readies(h), "2@0 1@0 1@1");
        due("7 what", h.ready(0, 2) + h.ready(0, -1) + h.ready(0, Integer.MIN_VALUE), -3);
        due("7 place", h.ready(3, 0) + h.ready(-1, 1) + h.ready(Integer.MAX_VALUE, 0), -3);
    }

    private static void resultAnswers() {
        House h = new House();
        h.node(END, 0);
        h.node(ENTER, -5);
        h.node(ARRAY, 0);
        h.arc(1, 0, 0, 0);
        h.arc(2, 0, 1, 0);
        h.token(0, 0, Long.MIN_VALUE);
        h.token(1, 0, 7L);
        h.token(2, 0, 0L);
        h.token(2, 0, -1L);
        inTurn(h, 500);
        due("8 results", results(h), "n" + Long.MIN_VALUE + "@0 n7@1 a0@1 e2@1");
        for (int[] c : new int[][] {{4, 0}, {-1, 0}, {0, 3}, {0, -1}, {Integer.MIN_VALUE, 1}, {4, 9}}) {
            due("8 none", thrown(() -> h.result(c[0], c[1])), "NoSuchElementException");
        }
    }

    private static void contextAnswers() {
        House h = new House();
        int a = h.node(ENTER, Integer.MIN_VALUE);
        int b = h.node(ENTER, 7);
        int next = h.node(NEXT, 0);
        int first = h.node(FIRST, 0);
        int end = h.node(END, 0);
        h.arc(a, 0, b, 0);
        h.arc(b, 0, next, 0);
        h.arc(next, 0, first, 0);
        h.arc(first, 0, end, 0);
        h.token(a, 0, 1L);
        h.run(500, 0L);
        due("9 in the ROOT", context(h, 1), "0," + Integer.MIN_VALUE + ",0");
        due("9 in 1", context(h, 2), "1,7,0");
        due("9 next ROUND", context(h, 3), "1,7,1");
        due("9 the same three, the same CONTEXT", results(h), "n1@2");
        h.token(a, 0, 1L);
        h.run(500, 0L);
        due("9 no new one", totals(h), "5 0 0 2 4 0 0 0 10 10");
        for (int[] c : new int[][] {{4, 0}, {-1, 0}, {0, 3}, {0, -1}, {Integer.MAX_VALUE, 1}}) {
            due("9 none", thrown(() -> h.context(c[0], c[1])), "NoSuchElementException");
        }
    }

    private static void rootMoves() {
        for (int op = NEXT; op <= LEAVE; op++) {
            House h = new House();
            h.node(op, 3);
            h.node(END, 0);
            h.arc(0, 0, 1, 0);
            h.token(0, 0, 6L);
            h.run(9, 0L);
            due("9 OP " + op + " in the ROOT", results(h) + " " + h.total(4), "n6@0 1");
        }
    }

    private static void mostContexts() {
        House h = new House();
        h.node(ENTER, 1);
        h.node(NEXT, 0);
        h.arc(0, 0, 1, 0);
        h.arc(1, 0, 1, 0);
        h.token(0, 0, 1L);
        due("9 the 151st is TRAP 2", h.run(500, 0L), 151);
        due("9 all", totals(h), "2 0 0 0 151 0 0 2 151 151");
        due("9 last", context(h, 150), "0,1,149");
    }

    private static void cellAnswers() {
        House h = new House();
        int array = h.node(ARRAY, 0);
        int fetch = h.node(FETCH, 0);
        int store = h.node(STORE, 0);
        int end = h.node(END, 0);
        h.arc(array, 0, fetch, 0);
        h.arc(array, 0, store, 0);
        h.arc(array, 0, store, 2);
        h.arc(fetch, 0, end, 0);
        h.token(array, 0, 8L);
        h.token(fetch, 1, 7L);
        h.run(2, 0L);
        due("10 kept", cell(h, 0, 7), "3,0,1");
        h.token(store, 1, 7L);
        h.run(9, 0L);
        due("10 written", cell(h, 0, 7), "2,0,0");
        due("10 got it", results(h), "a0@0");
        for (int[] c : new int[][] {{0, 8, 0}, {0, -1, 0}, {1, 0, 0}, {-1, 0, 0}, {0, 0, 3}, {0, 0, -1}}) {
            due("10 none", thrown(() -> h.cell(c[0], c[1], c[2])), "NoSuchElementException");
        }
        h.clear(false);
        h.token(array, 0, 0L);
        h.run(1, 0L);
        due("10 no cells", thrown(() -> h.cell(0, 0, 0)), "NoSuchElementException");
        due("10 an ARRAY", h.total(5), 1);
    }

    private static void cellValues() {
        House h = new House();
        int array = h.node(ARRAY, 0);
        int store = h.node(STORE, 0);
        int divide = h.node(DIVIDE, 0);
        int end = h.node(END, 0);
        h.arc(array, 0, store, 0);
        h.arc(divide, 0, store, 2);
        h.arc(store, 0, end, 0);
        h.token(array, 0, 2L);
        h.token(divide, 0, 2L);
        h.token(divide, 1, 0L);
        h.token(store, 1, 1L);
        h.run(9, 0L);
        due("10 an ERROR", cell(h, 0, 1), "1,1,0");
        due("10 STORE gives it", results(h), "e1@0");
    }

    private static House twoStores(int lateArc) {
        House h = new House();
        int array = h.node(ARRAY, 0);
        int first = h.node(STORE, 0);
        int second = h.node(STORE, 0);
        int end = h.node(END, 0);
        h.arc(array, 0, first, 0);
        h.arc(array, 0, second, 0);
        h.arc(first, 0, end, 0);
        h.arc(second, 0, end, 0);
        h.token(array, 0, 1L);
        h.token(first, 1, 0L);
        h.token(second, 1, lateArc);
        h.token(first, 2, 10L);
        h.token(second, 2, 20L);
        return h;
    }

    private static void writtenTwice() {
        House h = twoStores(0);
        due("10 run to TRAP 3", inTurn(h, 9), 3);
        due("10 TRAP 3", totals(h), "4 1 0 0 1 1 0 3 3 3");
        due("10 the first stays", cell(h, 0, 0), "0,10,0");
        House g = twoStores(1);
        due("10 no cell", inTurn(g, 9), 5);
        due("10 ERROR 3", results(g), "n10@0 e3@0");
    }

    private static void keptInOrder() {
        House h = new House();
        int array = h.node(ARRAY, 0);
        int store = h.node(STORE, 0);
        int a = h.node(FETCH, 0);
        int b = h.node(FETCH, 0);
        int x = h.node(SAME, 0);
        int y = h.node(SAME, 0);
        int z = h.node(SAME, 0);
        h.arc(array, 0, a, 0);
        h.arc(array, 0, b, 0);
        h.arc(array, 0, store, 0);
        h.arc(a, 0, x, 0);
        h.arc(b, 0, y, 0);
        h.arc(store, 0, z, 0);
        h.token(array, 0, 1L);
        h.token(b, 1, 0L);
        h.token(a, 1, 0L);
        h.run(1, 0L);
        due("10 both READY", readies(h), a + "@0 " + b + "@0");
        h.run(1, 2L);
        h.run(1, 0L);
        due("10 two kept", cell(h, 0, 0), "3,0,2");
        h.token(store, 1, 0L);
        h.token(store, 2, 5L);
        h.run(1, 0L);
        due("10 STORE first, then as they came", readies(h), z + "@0 " + y + "@0 " + x + "@0");
        due("10 none kept", h.total(6), 0);
    }

    private static void keptBehindTrap() {
        House h = new House();
        int array = h.node(ARRAY, 0);
        int store = h.node(STORE, 0);
        int fetch = h.node(FETCH, 0);
        int plus = h.node(PLUS, 0);
        h.arc(array, 0, store, 0);
        h.arc(array, 0, fetch, 0);
        h.arc(store, 0, plus, 0);
        h.arc(fetch, 0, plus, 0);
        h.token(array, 0, 1L);
        h.token(fetch, 1, 0L);
        h.token(store, 1, 0L);
        h.token(store, 2, 5L);
        h.run(1, 0L);
        h.run(1, 2L);
        due("10 kept", h.total(6), 1);
        h.run(1, 0L);
        due("10 TRAP 1 by the kept one", totals(h), "4 0 1 0 1 1 0 1 3 3");
        h.clear(false);
        h.token(plus, 0, 1L);
        h.token(array, 0, 1L);
        h.token(fetch, 1, 0L);
        h.run(2, 0L);
        h.token(store, 1, 0L);
        h.token(store, 2, 5L);
        h.run(1, 0L);
        due("10 TRAP 1 by STORE itself", totals(h), "4 0 1 0 1 1 1 1 3 6");
        due("10 written, still kept", cell(h, 0, 0), "0,5,1");
    }

    private static void mostArrays() {
        House h = new House();
        h.node(ARRAY, 0);
        h.node(CONSTANT, 8);
        h.arc(0, 0, 1, 0);
        h.arc(1, 0, 0, 0);
        h.token(0, 0, 8L);
        due("10 the 41st is TRAP 2", h.run(500, 0L), 81);
        due("10 forty", totals(h), "2 0 0 0 1 40 0 2 81 81");
        due("10 last cell", cell(h, 39, 7), "3,0,0");
        h.clear(false);
        for (int i = 0; i < 40; i++) {
            h.token(0, 0, 0L);
        }
        h.run(40, 0L);
        h.clear(false);
        h.token(0, 0, 9L);
        due("10 an ERROR needs no ARRAY", h.run(3, 0L) + " " + h.total(5), "3 0");
    }

    private static void waitingAnswers() {
        House h = new House();
        h.node(STORE, 0);
        h.node(ENTER, 1);
        h.arc(1, 0, 0, 2);
        due("11 none yet", h.waiting(0, 0), 0);
        h.token(0, 0, 1L);
        h.token(0, 1, 1L);
        h.token(1, 0, 1L);
        due("11 no CONTEXT", h.waiting(0, 1), -1);
        h.run(9, 0L);
        due("11 each CONTEXT", h.waiting(0, 0) + " " + h.waiting(0, 1) + " " + h.waiting(1, 1), "2 1 0");
        due("11 wrong", h.waiting(2, 0) + h.waiting(-1, 0) + h.waiting(0, 2) + h.waiting(0, -1), -4);
        h.token(0, 2, 1L);
        due("11 taken away", h.waiting(0, 0) + " " + h.total(2), "0 1");
    }

    private static void totalsAnswer() {
        House h = new House();
        for (int what : new int[] {-1, 10, Integer.MIN_VALUE, Integer.MAX_VALUE}) {
            due("12 what " + what, h.total(what), -1);
        }
    }

    private static void arithmetic() {
        long top = Long.MAX_VALUE;
        long low = Long.MIN_VALUE;
        due("op 0", made(SAME, 0, -4L), "n-4@0");
        due("op 1", made(PLUS, 0, top, 1L), "n" + low + "@0");
        due("op 2", made(MINUS, 0, low, 1L) + made(MINUS, 0, 3L, 5L), "n" + top + "@0n-2@0");
        due("op 3", made(TIMES, 0, top, 2L), "n-2@0");
        due("op 4", made(DIVIDE, 0, -7L, 2L) + made(DIVIDE, 0, 7L, -2L), "n-3@0n-3@0");
        due("op 4 wraps", made(DIVIDE, 0, low, -1L), "n" + low + "@0");
        due("op 4 by 0", made(DIVIDE, 0, 0L, 0L), "e1@0");
        due("op 5", made(LESS, 0, low, top) + made(LESS, 0, 3L, 3L) + made(LESS, 0, 4L, 3L), "n1@0n0@0n0@0");
        due("op 6", made(CONSTANT, Integer.MIN_VALUE, 5L) + made(CONSTANT, 9, "a"), "n-2147483648@0n9@0");
        due("op 6 of an ERROR", made(CONSTANT, 9, "e3"), "e3@0");
        due("op 14", made(ARRAY, 0, 0L) + made(ARRAY, 0, 8L), "a0@0a0@0");
        due("op 14 wrong", made(ARRAY, 0, -1L) + made(ARRAY, 0, 9L) + made(ARRAY, 0, low), "e2@0e2@0e2@0");
        due("op 14 length is a long", made(ARRAY, 0, 1L << 32), "e2@0");
        due("op 14 of others", made(ARRAY, 0, "a") + made(ARRAY, 0, "e1"), "e4@0e1@0");
        due("op 17", made(END, 0, 1L), "n1@0");
    }

    private static void errors() {
        for (int op = PLUS; op <= LESS; op++) {
            due("wrong kind " + op, made(op, 0, "a", 1L) + made(op, 0, 1L, "a") + made(op, 0, "a", "a"),
                    "e4@0e4@0e4@0");
            due("lesser " + op, made(op, 0, "e3", "e1") + made(op, 0, "e2", "e3"), "e1@0e2@0");
            due("ERROR beside a wrong kind " + op, made(op, 0, "a", "e3") + made(op, 0, "e1", "a"), "e3@0e1@0");
            due("ERROR 4 came " + op, made(op, 0, "e4", 1L) + made(op, 0, "e4", "e2"), "e4@0e2@0");
        }
        for (int op : new int[] {SAME, END}) {
            due("goes through " + op, made(op, 0, "e2") + made(op, 0, "a"), "e2@0a0@0");
        }
        due("15", made(FETCH, 0, 1L, 0L) + made(FETCH, 0, "e3", "e2") + made(FETCH, 0, 1L, "e2"), "e4@0e2@0e2@0");
        due("15 y", made(FETCH, 0, "a", "a") + made(FETCH, 0, "a", 2L) + made(FETCH, 0, "a", -1L), "e4@0e3@0e3@0");
        due("15 y is a long", made(FETCH, 0, "a", 1L << 32) + made(FETCH, 0, "a", Long.MIN_VALUE), "e3@0e3@0");
        due("16", made(STORE, 0, 1L, 0L, 5L) + made(STORE, 0, "e3", 0L, "e1"), "e4@0e3@0");
        due("16 y", made(STORE, 0, "a", "a", 5L) + made(STORE, 0, "a", 2L, 5L), "e4@0e3@0");
        due("16 z", made(STORE, 0, "a", 1L, "e2") + made(STORE, 0, "a", 0L, "a"), "e2@0a1@0");
    }

    private static House switched(Object x, Object y) {
        House h = new House();
        int node = h.node(SWITCH, 0);
        int end = h.node(END, 0);
        int side = h.node(ENTER, 1);
        h.arc(node, 1, side, 0);
        h.arc(node, 0, end, 0);
        h.arc(node, 1, side, 0);
        h.arc(side, 0, end, 0);
        comeTo(h, node, x, y);
        inTurn(h, 500);
        return h;
    }

    private static void switches() {
        due("7 side 0", results(switched(5L, 0L)), "n5@0");
        due("7 side 1", results(switched(5L, -3L)), "n5@1 n5@1");
        due("7 side 1, a great y", results(switched(5L, 1L << 32)), "n5@1 n5@1");
        due("7 x an ERROR", results(switched("e3", 0L)), "e3@0");
        due("7 x an ARRAY", results(switched("a", 1L)), "a0@1 a0@1");
        due("7 y an ERROR", results(switched("e1", "e3")), "e3@0 e3@1 e3@1");
        due("7 y an ARRAY", results(switched(5L, "a")), "e4@0 e4@1 e4@1");
    }

    private static void sideNoughtFirst() {
        House h = new House();
        h.node(SWITCH, 0);
        h.node(SAME, 0);
        h.node(SAME, 0);
        h.node(DIVIDE, 0);
        h.arc(0, 1, 1, 0);
        h.arc(0, 0, 2, 0);
        h.arc(0, 1, 1, 0);
        h.arc(0, 0, 2, 0);
        h.arc(3, 0, 0, 1);
        h.token(0, 0, 1L);
        h.token(3, 0, 1L);
        h.token(3, 1, 0L);
        h.run(2, 0L);
        due("7 side 0, then side 1", readies(h), "2@0 2@0 1@0 1@0");
    }

    private static void calls() {
        House h = new House();
        int first = h.node(CALL, 2);
        int second = h.node(CALL, 2);
        int square = h.node(SAME, 0);
        int times = h.node(TIMES, 0);
        int back = h.node(RETURN, 0);
        int end = h.node(END, 0);
        int third = h.node(CALL, 7);
        int nowhere = h.node(CALL, -1);
        h.arc(square, 0, times, 0);
        h.arc(square, 0, times, 1);
        h.arc(times, 0, back, 0);
        h.arc(first, 0, end, 0);
        h.arc(second, 0, first, 0);
        h.arc(third, 0, end, 0);
        h.arc(back, 0, end, 0);
        h.token(first, 0, 3L);
        h.token(second, 0, 5L);
        h.token(third, 0, 8L);
        inTurn(h, 500);
        due("12 results", results(h), "n9@0 n625@0");
        due("12 CONTEXTS", context(h, 1) + " " + context(h, 2), "0,-1,0 0,-2,0");
        due("12 CONTEXTS in all", h.total(4), 4);
        due("12 of a CALL of no NODE", context(h, 3), "0,-7,0");
        h.token(back, 0, 1L);
        h.token(nowhere, 0, 1L);
        due("13 lost in the ROOT, 12 of no NODE lost", h.run(9, 0L) + " " + h.total(3) + " " + h.total(4), "2 2 4");
    }

    private static void returns() {
        int[] sites = {3, 0, -1, -2, -4, -5, -41, Integer.MIN_VALUE, Integer.MAX_VALUE};
        for (int site : sites) {
            House h = new House();
            int enter = h.node(ENTER, site);
            int same = h.node(SAME, 0);
            int back = h.node(RETURN, 0);
            int end = h.node(END, 0);
            int next = h.node(NEXT, 0);
            h.arc(enter, 0, next, 0);
            h.arc(next, 0, back, 0);
            h.arc(same, 0, end, 0);
            h.arc(back, 0, end, 0);
            h.token(enter, 0, 4L);
            h.run(5, 0L);
            due("13 by SITE " + site, results(h), site == -2 ? "n4@0" : "");
        }
    }

    private static void returnBySwitch() {
        House h = new House();
        int enter = h.node(ENTER, -2);
        int choose = h.node(SWITCH, 0);
        int back = h.node(RETURN, 0);
        int a = h.node(SAME, 0);
        int b = h.node(SAME, 0);
        h.arc(enter, 0, back, 0);
        h.arc(choose, 1, a, 0);
        h.arc(choose, 0, b, 0);
        h.token(enter, 0, 4L);
        h.run(2, 0L);
        due("13 by all ARCS of a SWITCH", readies(h), a + "@0 " + b + "@0");
    }

    private static void moves() {
        House h = new House();
        int enter = h.node(ENTER, 2);
        int inner = h.node(ENTER, 2);
        int leave = h.node(LEAVE, 0);
        int end = h.node(END, 0);
        int divide = h.node(DIVIDE, 0);
        h.arc(divide, 0, enter, 0);
        h.arc(enter, 0, inner, 0);
        h.arc(inner, 0, end, 0);
        h.arc(inner, 0, leave, 0);
        h.arc(leave, 0, end, 0);
        h.token(divide, 0, 4L);
        h.token(divide, 1, 0L);
        h.run(500, 0L);
        due("8, 11 with an ERROR", results(h), "e1@2 e1@1");
        due("8 told by what it is in", context(h, 1) + " " + context(h, 2), "0,2,0 1,2,0");
        due("8 made where no ARC leads on", madeWithoutArcs(), 2);
    }

    /** ENTER, then the OP, then END: what an ERROR or an ARRAY comes to, and in which CONTEXT. */
    private static String moved(int op, int n, String input) {
        House h = new House();
        int enter = h.node(ENTER, -2);
        int caller = h.node(CALL, 99);
        int end = h.node(END, 0);
        int next = h.node(NEXT, 0);
        int tested = h.node(op, n);
        h.arc(enter, 0, next, 0);
        h.arc(next, 0, tested, 0);
        h.arc(tested, 0, end, 0);
        h.arc(caller, 0, end, 0);
        comeTo(h, enter, input);
        inTurn(h, 500);
        return results(h);
    }

    private static void movedValues() {
        for (String input : new String[] {"e1", "e2", "e4", "a"}) {
            String value = input.equals("a") ? "a0" : input;
            due("0 with " + input, moved(SAME, 0, input), value + "@2");
            due("8 with " + input, moved(ENTER, 5, input), value + "@3");
            due("9 with " + input, moved(NEXT, 0, input), value + "@3");
            due("10 with " + input, moved(FIRST, 0, input), value + "@1");
            due("11 with " + input, moved(LEAVE, 0, input), value + "@0");
            due("12 with " + input, moved(CALL, 2, input), value + "@3");
            due("13 with " + input, moved(RETURN, 0, input), value + "@0");
        }
    }

    private static void callTooMany() {
        House h = new House();
        int deeper = h.node(CALL, 0);
        h.token(deeper, 0, 1L);
        due("12 the 151st CONTEXT is TRAP 2", h.run(500, 0L), 151);
        due("12 all", totals(h), "1 0 0 0 151 0 0 2 151 151");
        due("12 each in the one before", context(h, 150), "149,-1,0");
    }

    private static void fetchOfWritten() {
        House h = new House();
        int array = h.node(ARRAY, 0);
        int store = h.node(STORE, 0);
        int fetch = h.node(FETCH, 0);
        int end = h.node(END, 0);
        h.arc(array, 0, store, 0);
        h.arc(array, 0, fetch, 0);
        h.arc(fetch, 0, end, 0);
        h.token(array, 0, 3L);
        h.token(store, 1, 2L);
        h.token(store, 2, -9L);
        h.run(2, 0L);
        h.token(fetch, 1, 2L);
        due("15 went", h.run(9, 0L), 2);
        due("15 what the cell has", results(h) + " " + h.total(6), "n-9@0 0");
    }

    private static int madeWithoutArcs() {
        House h = new House();
        h.node(ENTER, 2);
        h.token(0, 0, 1L);
        h.run(1, 0L);
        return h.total(4);
    }

    public static void main(String[] args) {
        runAll(PromiseTest.class);
    }
}
