/** Each sentence of the section 'Terms' that names a bound or a special case: at it and a step to either side. */
public final class TermBoundsTest extends Check {
    private static final long LEAST = Long.MIN_VALUE;
    private static final long MOST = Long.MAX_VALUE;
    private static final String[] ERRORS = {"e1", "e2", "e3", "e4"};

    private static void op(String what, String got, String want) {
        due(what, got, want.isEmpty() ? "" : want + "@0");
    }

    // ---- The GRAPH

    /** "ARCS .. in the order in which they came". */
    private static void graphOrderOfArcs() {
        House h = with(SAME, SAME, SAME, SAME);
        for (int to : new int[] {3, 1, 3, 2, 1}) {
            h.arc(0, 0, to, 0);
        }
        h.token(0, 0, 1L);
        h.run(1, 0L);
        due("order of ARCS", readies(h), "3@0 1@0 3@0 2@0 1@0");
    }

    /** "(in brackets how many PORTS)": a NODE is READY with its last one, not before. */
    private static void graphPorts() {
        for (int op = 0; op < OPS; op++) {
            House h = with(op);
            for (int port = 0; port < PORTS[op]; port++) {
                due("READY before the last, OP " + op, h.total(1), 0);
                h.token(0, port, 0L);
            }
            due("READY with the last, OP " + op, h.total(1) + " " + h.total(2), "1 0");
        }
    }

    // ---- Numbers

    /** "a number (a long, all wraps)": 1. */
    private static void op01Wraps() {
        op("1 to the top", made(PLUS, 0, MOST - 1, 1L), "n" + MOST);
        op("1 over it", made(PLUS, 0, MOST, 1L), "n" + LEAST);
        op("1 under the least", made(PLUS, 0, LEAST, -1L), "n" + MOST);
        op("1 both", made(PLUS, 0, LEAST, LEAST), "n0");
    }

    /** "all wraps": 2. */
    private static void op02Wraps() {
        op("2 to the least", made(MINUS, 0, LEAST + 1, 1L), "n" + LEAST);
        op("2 under it", made(MINUS, 0, LEAST, 1L), "n" + MOST);
        op("2 over the top", made(MINUS, 0, MOST, -1L), "n" + LEAST);
        op("2 of the least", made(MINUS, 0, 0L, LEAST), "n" + LEAST);
        op("2 is not turned", made(MINUS, 0, 3L, 5L), "n-2");
    }

    /** "all wraps": 3. */
    private static void op03Wraps() {
        op("3 to the least", made(TIMES, 0, 1L << 62, -2L), "n" + LEAST);
        op("3 over the top", made(TIMES, 0, 1L << 62, 2L), "n" + LEAST);
        op("3 of the least", made(TIMES, 0, LEAST, -1L), "n" + LEAST);
        op("3 all gone", made(TIMES, 0, 1L << 32, 1L << 32), "n0");
        op("3 of the top", made(TIMES, 0, MOST, MOST), "n1");
    }

    /** "x / y (towards 0 ..)", "all wraps". */
    private static void op04TowardsNought() {
        op("4 ++", made(DIVIDE, 0, 7L, 2L), "n3");
        op("4 -+", made(DIVIDE, 0, -7L, 2L), "n-3");
        op("4 +-", made(DIVIDE, 0, 7L, -2L), "n-3");
        op("4 --", made(DIVIDE, 0, -7L, -2L), "n3");
        op("4 -1 by 2", made(DIVIDE, 0, -1L, 2L), "n0");
        op("4 of the least by -1", made(DIVIDE, 0, LEAST, -1L), "n" + LEAST);
        op("4 of the next by -1", made(DIVIDE, 0, LEAST + 1, -1L), "n" + MOST);
        op("4 0 by 5", made(DIVIDE, 0, 0L, 5L), "n0");
    }

    /** "by 0: ERROR 1". */
    private static void op04ByNought() {
        for (long x : new long[] {0L, 1L, -1L, LEAST, MOST}) {
            op("4 " + x + " by 0", made(DIVIDE, 0, x, 0L), "e1");
            op("4 " + x + " by 1", made(DIVIDE, 0, x, 1L), "n" + x);
        }
    }

    /** "1 if x < y, else 0". */
    private static void op05Less() {
        op("5 less", made(LESS, 0, 2L, 3L), "n1");
        op("5 the same", made(LESS, 0, 3L, 3L), "n0");
        op("5 more", made(LESS, 0, 4L, 3L), "n0");
        op("5 least and most", made(LESS, 0, LEAST, MOST), "n1");
        op("5 most and least", made(LESS, 0, MOST, LEAST), "n0");
        op("5 -1 and 0", made(LESS, 0, -1L, 0L), "n1");
    }

    /** "n, whatever x is (but an ERROR: that)". */
    private static void op06Constant() {
        op("6 of a number", made(CONSTANT, -3, 5L), "n-3");
        op("6 of an ARRAY", made(CONSTANT, 9, "a"), "n9");
        for (String error : ERRORS) {
            op("6 of an ERROR", made(CONSTANT, 9, error), error);
        }
    }

    /** "x", of any kind. */
    private static void op00Same() {
        op("0 of a number", made(SAME, 5, LEAST), "n" + LEAST);
        op("0 of an ARRAY", made(SAME, 5, "a"), "a0");
        for (String error : ERRORS) {
            op("0 of an ERROR", made(SAME, 5, error), error);
        }
    }

    // ---- SWITCH

    /** A SWITCH whose side 0 leads to an END in the ROOT, whose side 1 to one in CONTEXT 1. */
    private static String switched(Object x, Object y) {
        House h = new House();
        int node = h.node(SWITCH, 0);
        int end = h.node(END, 0);
        int enter = h.node(ENTER, 1);
        h.arc(node, 1, enter, 0);
        h.arc(node, 0, end, 0);
        h.arc(enter, 0, end, 0);
        comeTo(h, node, x, y);
        inTurn(h, 50);
        return results(h);
    }

    /** "x, on side 0 if y is 0, else on side 1". */
    private static void op07Sides() {
        due("7 y 0", switched(5L, 0L), "n5@0");
        for (long y : new long[] {1L, -1L, 2L, 1L << 32, LEAST, MOST}) {
            due("7 y " + y, switched(5L, y), "n5@1");
        }
    }

    /** x of a SWITCH may be anything. */
    private static void op07AnyX() {
        for (long y = 0; y <= 1; y++) {
            due("7 x an ARRAY", switched("a", y), "a0@" + y);
            for (String error : ERRORS) {
                due("7 x an ERROR", switched(error, y), error + "@" + y);
            }
        }
    }

    /** "if y is an ERROR .. that ERROR on side 0, then on side 1", whatever x is. */
    private static void op07YError() {
        for (String error : ERRORS) {
            due("7 y an ERROR", switched(5L, error), error + "@0 " + error + "@1");
            due("7 x an ARRAY", switched("a", error), error + "@0 " + error + "@1");
            due("7 x another ERROR", switched("e2", error), error + "@0 " + error + "@1");
        }
    }

    /** "or an ARRAY (ERROR 4)". */
    private static void op07YArray() {
        due("7 y an ARRAY", switched(5L, "a"), "e4@0 e4@1");
        due("7 x an ERROR", switched("e1", "a"), "e4@0 e4@1");
    }

    /** "on side 0, then on side 1", each in the order of its ARCS. */
    private static void op07Order() {
        House h = with(SWITCH, SAME, SAME, SAME, SAME);
        h.arc(0, 1, 1, 0);
        h.arc(0, 0, 2, 0);
        h.arc(0, 1, 3, 0);
        h.arc(0, 0, 4, 0);
        comeTo(h, 0, 5L, "e1");
        h.run(2, 0L);
        due("7 order", readies(h), "2@0 4@0 1@0 3@0");
    }

    /** A TRAP on side 0: nothing comes on side 1. */
    private static void op07TrapOnSideNought() {
        House h = with(SWITCH, PLUS, SAME);
        h.arc(0, 1, 2, 0);
        h.arc(0, 0, 1, 0);
        comeTo(h, 0, 5L, "e1");
        h.token(1, 0, 1L);
        due("7 went", h.run(500, 0L), 2);
        due("7 TRAP 1", h.total(7) + " " + h.total(1), "1 0");
    }

    /** A side without ARCS gives nothing. */
    private static void op07NoArcs() {
        House h = with(SWITCH, SAME);
        h.arc(0, 0, 1, 0);
        h.token(0, 0, 1L);
        h.token(0, 1, 1L);
        due("7 lost", h.run(9, 0L) + " " + h.total(7), "1 0");
    }

    // ---- CONTEXTS

    /** "A CONTEXT ..: 0 is the ROOT; others are told by what they are in, a SITE and a ROUND: the same three are the same". */
    private static void contextsTheSame() {
        House h = new House();
        h.node(ENTER, 4);
        h.node(ENTER, 4);
        h.node(ENTER, 5);
        h.node(END, 0);
        for (int i = 0; i < 3; i++) {
            h.arc(i, 0, 3, 0);
        }
        for (int i = 0; i < 3; i++) {
            h.token(i, 0, i);
        }
        inTurn(h, 9);
        due("8 same SITE, other SITE", results(h), "n0@1 n1@1 n2@2");
        due("8 CONTEXTS", h.total(4), 3);
    }

    /** The same SITE in another CONTEXT is another one. */
    private static void contextsInOthers() {
        House h = new House();
        h.node(ENTER, 4);
        h.node(ENTER, 4);
        h.arc(0, 0, 1, 0);
        h.token(0, 0, 1L);
        h.token(1, 0, 1L);
        h.run(9, 0L);
        due("8 in the ROOT, in 1", context(h, 1) + " " + context(h, 2) + " " + h.total(4), "0,4,0 1,4,0 3");
    }

    /** "a SITE (an int)": any n. */
    private static void op08AnySite() {
        for (int n : new int[] {LOW, -1, 0, 1, TOP}) {
            House h = new House();
            h.node(ENTER, n);
            h.token(0, 0, 1L);
            h.run(1, 0L);
            due("8 SITE " + n, context(h, 1) + " " + h.total(4), "0," + n + ",0 2");
        }
    }

    /** SITE 0, ROUND 0 in the ROOT is not the ROOT. */
    private static void op08SiteNought() {
        due("8 SITE 0", made(ENTER, 0, 1L), "n1@1");
    }

    /** "(9 to 11 in the ROOT: in the ROOT.)" */
    private static void op09To11InTheRoot() {
        for (int op = NEXT; op <= LEAVE; op++) {
            House h = with(op, END);
            h.arc(0, 0, 1, 0);
            h.token(0, 0, 6L);
            h.run(2, 0L);
            due("OP " + op + " in the ROOT", results(h) + " " + h.total(4), "n6@0 1");
        }
    }

    /** ENTER (SITE 7) in ENTER (SITE 3), the OPS one behind another, then END. */
    private static House moved(int... ops) {
        House h = new House();
        h.node(ENTER, 3);
        h.node(ENTER, 7);
        h.arc(0, 0, 1, 0);
        int last = 1;
        for (int op : ops) {
            int next = h.node(op, 0);
            h.arc(last, 0, next, 0);
            last = next;
        }
        h.arc(last, 0, h.node(END, 0), 0);
        h.token(0, 0, 1L);
        h.run(ops.length + 3, 0L);
        return h;
    }

    /** 9: "in that with the same two, its ROUND 1 more". */
    private static void op09Rounds() {
        House h = moved(NEXT, NEXT);
        due("9 ROUNDS", context(h, 2) + " " + context(h, 3) + " " + context(h, 4), "1,7,0 1,7,1 1,7,2");
        due("9 there", results(h), "n1@4");
    }

    /** 10: "likewise, ROUND 0". */
    private static void op10RoundNought() {
        due("10 from ROUND 0", results(moved(FIRST)), "n1@2");
        due("10 from ROUND 1", results(moved(NEXT, FIRST)), "n1@2");
        House h = moved(NEXT, NEXT, FIRST);
        due("10 from ROUND 2", results(h) + " " + h.total(4), "n1@2 5");
    }

    /** 11: "in the CONTEXT that this one is in". */
    private static void op11Leaves() {
        due("11 once", results(moved(LEAVE)), "n1@1");
        due("11 from ROUND 1", results(moved(NEXT, LEAVE)), "n1@1");
        due("11 twice", results(moved(LEAVE, LEAVE)), "n1@0");
        due("11 from the ROOT", results(moved(LEAVE, LEAVE, LEAVE)), "n1@0");
    }

    /** "at most 150 besides the ROOT": by 8, each in the one before. */
    private static void contextsMostBy8() {
        House h = with(ENTER);
        h.arc(0, 0, 0, 0);
        h.token(0, 0, 1L);
        h.run(149, 0L);
        due("8 149", h.total(4) + " " + h.total(7), "150 0");
        due("8 none more yet", thrown(() -> h.context(150, 0)), ELEMENT);
        h.run(1, 0L);
        due("8 150", h.total(4) + " " + h.total(7), "151 0");
        due("8 the last", context(h, 150), "149,0,0");
        due("8 one more", h.run(1, 0L), 1);
        due("8 TRAP 2", totals(h), "1 0 0 0 151 0 0 2 151 151");
        due("8 none more", thrown(() -> h.context(151, 0)), ELEMENT);
        due("8 what was done stays", context(h, 150), "149,0,0");
    }

    /** "at most 150 besides the ROOT": by 9. */
    private static void contextsMostBy9() {
        House h = with(ENTER, NEXT);
        h.arc(0, 0, 1, 0);
        h.arc(1, 0, 1, 0);
        h.token(0, 0, 1L);
        due("9 150", h.run(150, 0L) + " " + h.total(4) + " " + h.total(7), "150 151 0");
        due("9 the last", context(h, 150), "0,0,149");
        due("9 one more", h.run(500, 0L), 1);
        due("9 TRAP 2", totals(h), "2 0 0 0 151 0 0 2 151 151");
    }

    /** "at most 150 besides the ROOT": by 12. */
    private static void contextsMostBy12() {
        House h = with(CALL);
        h.token(0, 0, 1L);
        due("12 150", h.run(150, 0L) + " " + h.total(4) + " " + h.total(7), "150 151 0");
        due("12 the last", context(h, 150), "149,-1,0");
        due("12 one more", h.run(500, 0L), 1);
        due("12 TRAP 2", totals(h), "1 0 0 0 151 0 0 2 151 151");
    }

    /** All 150 are there: ENTER 0 in itself, ROUND 0 each; the other NODES begin in the ROOT. */
    private static House all150(int... others) {
        House h = with(ENTER, SAME);
        h.arc(0, 0, 1, 0);
        h.arc(1, 0, 0, 0);
        for (int op : others) {
            h.node(op, 0);
        }
        return h;
    }

    private static void fill150(House h) {
        h.token(0, 0, 1L);
        h.run(299, 0L);
        due("all 150", h.total(4) + " " + h.total(7) + " " + readies(h), "151 0 1@150");
    }

    /** A CONTEXT that is there already is no TRAP at 150. */
    private static void contextsKnownAt150() {
        House h = all150(ENTER, NEXT, FIRST, LEAVE, END);
        h.arc(2, 0, 4, 0);
        h.arc(4, 0, 5, 0);
        h.arc(5, 0, 6, 0);
        fill150(h);
        h.token(2, 0, 5L);
        due("went by 8, 10, 11", h.run(1, 2L) + h.run(1, 2L) + h.run(1, 2L) + h.run(1, 2L), 4);
        due("no TRAP", results(h) + " " + h.total(7), "n5@0 0");
        h.token(3, 0, 5L);
        due("9 in the ROOT", h.run(1, 2L) + " " + h.total(7), "1 0");
    }

    /** At 150, 9 to a new ROUND is TRAP 2. */
    private static void contextsNewRoundAt150() {
        House h = all150(ENTER, NEXT);
        h.arc(2, 0, 3, 0);
        fill150(h);
        h.token(2, 0, 5L);
        h.run(1, 2L);
        due("no TRAP yet", h.total(7), 0);
        due("9 TRAP 2", h.run(1, 2L) + " " + h.total(7) + " " + h.total(4), "1 2 151");
    }

    /** At 150, a CALL of no NODE is lost, that is all: no TRAP. */
    private static void callOfNoNodeAt150() {
        House h = all150();
        h.node(CALL, 4);
        h.node(CALL, 1);
        fill150(h);
        h.token(2, 0, 5L);
        due("12 lost", h.run(1, 2L) + " " + h.total(7), "1 0");
        h.token(3, 0, 5L);
        due("12 TRAP 2", h.run(1, 2L) + " " + h.total(7), "1 2");
    }

    /** After clear there may be 150 again. */
    private static void contextsAfterClear() {
        House h = with(CALL);
        for (int i = 0; i < 2; i++) {
            h.token(0, 0, 1L);
            due("12 150", h.run(150, 0L) + " " + h.total(4) + " " + h.total(7), "150 151 0");
            h.clear(false);
        }
    }

    // ---- CALL and RETURN

    /** 12: "x to PORT 0 of NODE n", n the first and the last NODE. */
    private static void op12Called() {
        for (int n = 0; n <= 2; n += 2) {
            House h = new House();
            h.node(STORE, 0);
            h.node(CALL, n);
            h.node(STORE, 0);
            h.token(1, 0, 1L);
            h.run(1, 0L);
            due("12 to NODE " + n, h.waiting(n, 1) + " " + h.total(2), "1 1");
            h.token(n, 1, 1L);
            due("12 in its own CONTEXT", h.waiting(n, 0) + " " + h.waiting(n, 1), "1 1");
        }
    }

    /** It is PORT 0: a second CALL in the same CONTEXT finds that one WAITS. */
    private static void op12PortNought() {
        House h = new House();
        h.node(CALL, 1);
        h.node(PLUS, 0);
        h.token(0, 0, 1L);
        h.token(0, 0, 1L);
        due("12 twice: TRAP 1", h.run(9, 0L) + " " + h.total(7) + " " + h.total(4), "2 1 2");
    }

    /** 12: "(if there is none it is lost, that is all)". */
    private static void op12NoSuchNode() {
        for (int n : new int[] {-1, 2, 3, 40, LOW, TOP}) {
            House h = new House();
            h.node(CALL, n);
            h.node(END, 0);
            h.arc(0, 0, 1, 0);
            h.token(0, 0, 1L);
            due("12 of NODE " + n, h.run(9, 0L), 1);
            due("12 all is lost " + n, totals(h), "2 0 0 0 1 0 0 0 1 1");
        }
    }

    /** 12: "with SITE -1 - its own number": of the first and of the 40th NODE. */
    private static void op12Site() {
        House h = new House();
        for (int i = 0; i < 40; i++) {
            h.node(i == 0 || i == 39 ? CALL : SAME, 1);
        }
        h.token(0, 0, 1L);
        h.token(39, 0, 1L);
        h.run(1, 0L);
        h.run(1, 0L);
        due("12 SITES", context(h, 1) + " " + context(h, 2), "0,-1,0 0,-40,0");
    }

    /** A CALL's own ARCS are for what returns: x does not go by them. */
    private static void op12OwnArcs() {
        House h = new House();
        h.node(CALL, 1);
        h.node(SAME, 0);
        h.node(END, 0);
        h.arc(0, 0, 2, 0);
        h.token(0, 0, 1L);
        due("12 went", h.run(9, 0L) + " " + h.total(3), "2 0");
    }

    /** A CALL in a call: nothing goes back to the caller but by RETURN. */
    private static void op12InACall() {
        House h = new House();
        h.node(CALL, 1);
        h.node(CALL, 2);
        h.node(SAME, 0);
        h.node(END, 0);
        h.arc(0, 0, 3, 0);
        h.arc(1, 0, 3, 0);
        h.token(0, 0, 1L);
        due("12 went", h.run(9, 0L) + " " + h.total(3), "3 0");
        due("12 CONTEXTS", context(h, 1) + " " + context(h, 2) + " " + h.total(4), "0,-1,0 1,-2,0 3");
    }

    /** ENTER (SITE) -> RETURN; NODE 2 -> END 3; NODE 4 has no ARCS. */
    private static String returned(int site) {
        House h = new House();
        h.node(ENTER, site);
        h.node(RETURN, 0);
        h.node(SAME, 0);
        h.node(END, 0);
        h.node(SAME, 0);
        h.arc(0, 0, 1, 0);
        h.arc(2, 0, 3, 0);
        h.token(0, 0, 8L);
        int went = h.run(9, 0L);
        return went + " " + results(h);
    }

    /** 13: "if this CONTEXT's SITE is -1 - k: x by the ARCS of NODE k .. in the CONTEXT that this one is in". */
    private static void op13BySite() {
        due("13 SITE -3, NODE 2", returned(-3), "3 n8@0");
        due("13 SITE -1, NODE 0: back to RETURN, lost in the ROOT", returned(-1), "3 ");
    }

    /** 13: "(none, if there is no such NODE)", and none if it has no ARCS. */
    private static void op13NoSuchNode() {
        for (int site : new int[] {-5, -6, -7, -41, LOW, LOW + 1}) {
            due("13 SITE " + site, returned(site), "2 ");
        }
    }

    /** 13: "else it is lost". */
    private static void op13Lost() {
        for (int site : new int[] {0, 1, 2, 3, TOP}) {
            due("13 SITE " + site, returned(site), "2 ");
        }
    }

    /** 13 in the ROOT (its SITE is 0): lost. */
    private static void op13InTheRoot() {
        House h = with(RETURN, END);
        h.arc(0, 0, 1, 0);
        h.token(0, 0, 1L);
        due("13 lost", h.run(9, 0L), 1);
        due("13 all", totals(h), "2 0 0 0 1 0 0 0 1 1");
    }

    /** 13 in another ROUND of the call, and not in the CONTEXT where that was called from. */
    private static void op13FromInside() {
        House h = new House();
        h.node(CALL, 1);
        h.node(NEXT, 0);
        h.node(RETURN, 0);
        h.node(END, 0);
        h.node(ENTER, 5);
        h.arc(4, 0, 0, 0);
        h.arc(1, 0, 2, 0);
        h.arc(0, 0, 3, 0);
        h.token(4, 0, 8L);
        h.run(9, 0L);
        due("13 in CONTEXT 1", results(h), "n8@1");
        due("13 from there", context(h, 2) + " " + context(h, 3), "1,-1,0 1,-1,1");
    }

    /** 13: all ARCS of NODE k, in their order. */
    private static void op13AllArcs() {
        House h = new House();
        h.node(CALL, 1);
        h.node(RETURN, 0);
        h.node(SAME, 0);
        h.node(SAME, 0);
        h.arc(0, 0, 3, 0);
        h.arc(0, 0, 2, 0);
        h.arc(0, 0, 3, 0);
        h.token(0, 0, 8L);
        h.run(2, 0L);
        due("13 ARCS", readies(h), "3@0 2@0 3@0");
    }

    // ---- ARRAYS

    /** 14: "a new ARRAY of x cells (0 .. 8; else ERROR 2)". */
    private static void op14Length() {
        for (long x : new long[] {-1L, -2L, 9L, 10L, 256L, 1L << 32, (1L << 32) + 3, LEAST, MOST}) {
            House h = with(ARRAY, END);
            h.arc(0, 0, 1, 0);
            h.token(0, 0, x);
            h.run(2, 0L);
            due("14 of " + x, results(h) + " " + h.total(5), "e2@0 0");
        }
        for (int x = 0; x <= 8; x++) {
            House h = with(ARRAY, END);
            h.arc(0, 0, 1, 0);
            h.token(0, 0, x);
            h.run(2, 0L);
            due("14 of " + x, results(h) + " " + h.total(5), "a0@0 1");
            due("14 its last cell", x == 0 || hasCell(h, 0, x - 1), true);
            due("14 one behind it", hasCell(h, 0, x), false);
        }
    }

    /** "ARRAY (at most 40)": TRAP 2, of whatever length. */
    private static void op14Most() {
        for (long length : new long[] {0L, 8L}) {
            House h = with(ARRAY);
            for (int i = 0; i < 41; i++) {
                h.token(0, 0, length);
            }
            due("14 39", h.run(39, 0L) + " " + h.total(5) + " " + h.total(7), "39 39 0");
            due("14 40", h.run(1, 0L) + " " + h.total(5) + " " + h.total(7), "1 40 0");
            due("14 41", h.run(1, 0L) + " " + h.total(5) + " " + h.total(7), "1 40 2");
            due("14 the last", hasCell(h, 39, 7) + " " + hasCell(h, 40, 0), (length == 8L) + " false");
        }
    }

    /** At 40 an ERROR makes no ARRAY: no TRAP. */
    private static void op14ErrorsAt40() {
        House h = with(ARRAY, ARRAY, END, ARRAY);
        h.arc(1, 0, 2, 0);
        h.arc(0, 0, 3, 0);
        for (int i = 0; i < 39; i++) {
            h.token(3, 0, 0L);
        }
        h.run(39, 0L);
        h.token(0, 0, 1L);
        h.run(2, 0L);
        due("14 40, the last of an ARRAY: ERROR 4", h.total(5) + " " + h.total(7), "40 0");
        h.token(1, 0, 9L);
        h.run(2, 0L);
        due("14 ERROR 2 at 40", results(h) + " " + h.total(7), "e2@0 0");
        h.token(1, 0, 8L);
        due("14 TRAP 2", h.run(2, 0L) + " " + h.total(7), "1 2");
    }

    /** A TRAP gives nothing. */
    private static void op14TrapGivesNothing() {
        House h = with(ARRAY, SAME);
        for (int i = 0; i < 40; i++) {
            h.token(0, 0, 0L);
        }
        h.run(40, 0L);
        h.clear(false);
        h.arc(0, 0, 1, 0);
        for (int i = 0; i < 41; i++) {
            h.token(0, 0, 0L);
        }
        for (int i = 0; i < 41; i++) {
            h.run(1, 0L);
        }
        due("14 forty given", h.total(1) + " " + h.total(7), "40 2");
    }

    /** 14: of an ARRAY ERROR 4, of an ERROR that. */
    private static void op14OtherKinds() {
        op("14 of an ARRAY", made(ARRAY, 0, "a"), "e4");
        for (String error : ERRORS) {
            op("14 of an ERROR", made(ARRAY, 0, error), error);
        }
    }

    /** 15: "y is no cell: ERROR 3". */
    private static void op15NoCell() {
        for (long y : new long[] {-1L, 2L, 3L, 8L, 1L << 32, (1L << 32) + 1, LEAST, MOST}) {
            op("15 cell " + y, made(FETCH, 0, "a", y), "e3");
        }
        for (long y = 0; y <= 1; y++) {
            op("15 cell " + y + " is kept", made(FETCH, 0, "a", y), "");
        }
    }

    /** An ARRAY of no cells has none to FETCH or to STORE. */
    private static void op15And16OfNoCells() {
        House h = with(ARRAY, FETCH, STORE, END);
        h.arc(0, 0, 1, 0);
        h.arc(0, 0, 2, 0);
        h.arc(1, 0, 3, 0);
        h.arc(2, 0, 3, 0);
        h.token(1, 1, 0L);
        h.token(2, 1, 0L);
        h.token(2, 2, 0L);
        h.token(0, 0, 0L);
        h.run(9, 0L);
        due("15, 16 of no cells", results(h) + " " + h.total(7), "e3@0 e3@0 0");
    }

    /** ARRAY 0 -> STORE 1, STORE 2, FETCH 3 -> END 4; the ARRAY of 2 is there. */
    private static House stores() {
        House h = with(ARRAY, STORE, STORE, FETCH, END);
        h.arc(0, 0, 1, 0);
        h.arc(0, 0, 2, 0);
        h.arc(0, 0, 3, 0);
        for (int from = 1; from <= 3; from++) {
            h.arc(from, 0, 4, 0);
        }
        h.token(0, 0, 2L);
        h.run(1, 0L);
        return h;
    }

    private static void store(House h, int node, long y, long z) {
        h.token(node, 1, y);
        h.token(node, 2, z);
    }

    /** 15: "if it is written, what it has; else it is kept for it". */
    private static void op15Written() {
        House h = stores();
        store(h, 1, 1L, 7L);
        h.run(2, 0L);
        h.token(3, 1, 1L);
        due("15 written", h.run(9, 0L) + " " + results(h) + " " + h.total(6), "2 n7@0 n7@0 0");
        House g = stores();
        store(g, 1, 0L, 7L);
        g.run(2, 0L);
        g.token(3, 1, 1L);
        due("15 another cell", g.run(9, 0L) + " " + results(g) + " " + g.total(6), "1 n7@0 1");
        due("15 kept", cell(g, 0, 1), "3,0,1");
    }

    /** 16: "y is no cell: ERROR 3": nothing is written. */
    private static void op16NoCell() {
        for (long y : new long[] {-1L, 2L, 3L, 8L, 1L << 32, LEAST, MOST}) {
            House h = stores();
            store(h, 1, y, 7L);
            h.run(9, 0L);
            due("16 cell " + y, results(h) + " " + h.total(7), "e3@0 0");
            due("16 not written", cell(h, 0, 0) + " " + cell(h, 0, 1), "3,0,0 3,0,0");
        }
        for (int y = 0; y <= 1; y++) {
            House h = stores();
            store(h, 1, y, 7L);
            h.run(9, 0L);
            due("16 cell " + y, results(h), "n7@0");
            due("16 written", cell(h, 0, y) + " " + cell(h, 0, 1 - y), "0,7,0 3,0,0");
        }
    }

    /** 16: "One that is written already: TRAP 3"; it keeps what it has, and nothing is given. */
    private static void op16Twice() {
        House h = stores();
        store(h, 1, 0L, 7L);
        h.run(2, 0L);
        store(h, 2, 0L, 8L);
        due("16 went", h.run(9, 0L), 1);
        due("16 TRAP 3", h.total(7) + " " + results(h) + " " + h.total(1), "3 n7@0 0");
        due("16 what it had", cell(h, 0, 0), "0,7,0");
        House g = stores();
        store(g, 1, 0L, 7L);
        store(g, 2, 1L, 8L);
        due("16 another cell", g.run(9, 0L) + " " + g.total(7), "4 0");
    }

    /** It is written also with 0, and the same number again is TRAP 3. */
    private static void op16TwiceNought() {
        House h = stores();
        store(h, 1, 0L, 0L);
        store(h, 2, 0L, 0L);
        due("16 went", inTurn(h, 9), 2);
        due("16 TRAP 3", h.total(7) + " " + cell(h, 0, 0), "3 0,0,0");
    }

    /** What is written may be an ERROR or an ARRAY ("also an ERROR, an ARRAY"); then too it is written. */
    private static void op16AnyZ() {
        for (String z : new String[] {"e1", "e2", "e3", "e4", "a"}) {
            House h = with(ARRAY, STORE, END, STORE);
            h.arc(0, 0, 1, 0);
            h.arc(0, 0, 3, 0);
            h.arc(1, 0, 2, 0);
            int first = feeder(h, z, 1, 2);
            h.token(0, 0, 1L);
            h.run(1, 0L);
            h.token(1, 1, 0L);
            feed(h, first, z);
            h.run(9, 0L);
            boolean isArray = z.equals("a");
            due("16 z " + z, results(h), (isArray ? "a1" : z) + "@0");
            due("16 the cell " + z, cell(h, 0, 0), (isArray ? "2,1" : "1," + z.charAt(1)) + ",0");
            store(h, 3, 0L, 5L);
            due("16 again " + z, h.run(9, 0L) + " " + h.total(7), "1 3");
        }
    }

    /** "those kept for it get z": also an ERROR. */
    private static void op16KeptGetAnError() {
        House h = with(ARRAY, STORE, FETCH, DIVIDE, END);
        h.arc(0, 0, 1, 0);
        h.arc(0, 0, 2, 0);
        h.arc(3, 0, 1, 2);
        h.arc(2, 0, 4, 0);
        h.token(2, 1, 0L);
        h.token(0, 0, 1L);
        h.run(2, 0L);
        h.token(1, 1, 0L);
        h.token(3, 0, 1L);
        h.token(3, 1, 0L);
        h.run(9, 0L);
        due("16 kept", results(h) + " " + h.total(6), "e1@0 0");
    }

    /** 16: "behind that those kept for it get z, in the order in which they came (by the ARCS of their NODES, in their CONTEXTS)". */
    private static void op16KeptInOrder() {
        House h = with(ARRAY, STORE, FETCH, FETCH, ENTER, CONSTANT, SAME, SAME, SAME);
        h.arc(0, 0, 1, 0);
        h.arc(0, 0, 4, 0);
        h.arc(0, 0, 3, 0);
        h.arc(4, 0, 2, 0);
        h.arc(4, 0, 5, 0);
        h.arc(5, 0, 2, 1);
        h.arc(1, 0, 6, 0);
        h.arc(2, 0, 7, 0);
        h.arc(2, 0, 7, 0);
        h.arc(3, 0, 8, 0);
        h.token(0, 0, 1L);
        due("16 one kept in CONTEXT 1", inTurn(h, 9) + " " + cell(h, 0, 0), "4 3,0,1");
        h.token(3, 1, 0L);
        h.run(1, 0L);
        due("16 one more in the ROOT", cell(h, 0, 0), "3,0,2");
        store(h, 1, 0L, 9L);
        h.run(1, 0L);
        due("16 order", readies(h), "6@0 7@1 7@1 8@0");
        due("16 none kept", h.total(6) + " " + cell(h, 0, 0), "0 0,9,0");
    }

    /** Those kept for another cell, or for one of another ARRAY, stay. */
    private static void op16OthersStayKept() {
        House h = stores();
        h.token(3, 1, 1L);
        h.run(1, 0L);
        store(h, 1, 0L, 7L);
        h.run(9, 0L);
        due("16 another cell", cell(h, 0, 0) + " " + cell(h, 0, 1), "0,7,0 3,0,1");
        House g = with(ARRAY, FETCH, ARRAY, STORE);
        g.arc(0, 0, 1, 0);
        g.arc(2, 0, 3, 0);
        g.token(1, 1, 0L);
        g.token(0, 0, 1L);
        g.run(2, 0L);
        g.token(2, 0, 1L);
        store(g, 3, 0L, 7L);
        g.run(2, 0L);
        due("16 another ARRAY", cell(g, 0, 0) + " " + cell(g, 1, 0) + " " + g.total(6), "3,0,1 0,7,0 1");
    }

    // ---- ERRORS

    /** "the lesser one is given", of 1 to 5. */
    private static void errorsLesser() {
        for (int op = PLUS; op <= LESS; op++) {
            for (String x : ERRORS) {
                for (String y : ERRORS) {
                    op("lesser, OP " + op, made(op, 0, x, y), x.compareTo(y) <= 0 ? x : y);
                }
                op("x alone, OP " + op, made(op, 0, x, 1L), x);
                op("y alone, OP " + op, made(op, 0, 0L, x), x);
                op("beside an ARRAY, OP " + op, made(op, 0, x, "a"), x);
                op("beside an ARRAY, OP " + op, made(op, 0, "a", x), x);
            }
        }
    }

    /** "the lesser one is given", of 15 and of x and y of 16. */
    private static void errorsLesserOfArrays() {
        for (String x : ERRORS) {
            for (String y : ERRORS) {
                String lesser = x.compareTo(y) <= 0 ? x : y;
                op("lesser of 15", made(FETCH, 0, x, y), lesser);
                op("lesser of 16", made(STORE, 0, x, y, 1L), lesser);
            }
            op("15 x", made(FETCH, 0, x, 0L), x);
            op("15 x, beside no cell", made(FETCH, 0, x, -1L), x);
            op("15 y", made(FETCH, 0, "a", x), x);
            op("15 y beside a number", made(FETCH, 0, 1L, x), x);
            op("16 x", made(STORE, 0, x, 0L, 1L), x);
            op("16 y", made(STORE, 0, "a", x, 1L), x);
        }
    }

    /** "(but z of STORE ..)": it is not among those. */
    private static void errorsNotZ() {
        op("16 z lesser than x", made(STORE, 0, "e3", 0L, "e1"), "e3");
        op("16 z lesser than y", made(STORE, 0, "a", "e2", "e1"), "e2");
        op("16 z lesser, x a number", made(STORE, 0, 1L, 0L, "e1"), "e4");
        op("16 z lesser, no cell", made(STORE, 0, "a", 2L, "e1"), "e3");
    }

    /** "nothing else is done": a STORE with an ERROR writes nothing and is no TRAP 3. */
    private static void errorsNothingElse() {
        House h = with(ARRAY, STORE, DIVIDE, END);
        h.arc(0, 0, 1, 0);
        h.arc(2, 0, 1, 1);
        h.arc(1, 0, 3, 0);
        h.token(0, 0, 1L);
        h.token(1, 2, 5L);
        h.token(2, 0, 1L);
        h.token(2, 1, 0L);
        h.run(9, 0L);
        due("16 y an ERROR", results(h) + " " + cell(h, 0, 0), "e1@0 3,0,0");
    }

    /** "ERROR 4, if an ARRAY stands where a number must be (1 to 5, 14; y of 15, 16)". */
    private static void errorsArrayForNumber() {
        for (int op = PLUS; op <= LESS; op++) {
            op("x, OP " + op, made(op, 0, "a", 1L), "e4");
            op("y, OP " + op, made(op, 0, 1L, "a"), "e4");
            op("both, OP " + op, made(op, 0, "a", "a"), "e4");
        }
        op("4 an ARRAY by 0", made(DIVIDE, 0, "a", 0L), "e4");
        op("14", made(ARRAY, 0, "a"), "e4");
        op("15 y", made(FETCH, 0, "a", "a"), "e4");
        op("16 y", made(STORE, 0, "a", "a", 1L), "e4");
    }

    /** "or a number where an ARRAY must be (x of 15, 16)". */
    private static void errorsNumberForArray() {
        for (long x : new long[] {-1L, 0L, 1L, 40L, LEAST}) {
            op("15 x", made(FETCH, 0, x, 0L), "e4");
            op("15 x, y an ARRAY", made(FETCH, 0, x, "a"), "e4");
            op("16 x", made(STORE, 0, x, 0L, 1L), "e4");
            op("16 x, z an ARRAY", made(STORE, 0, x, 0L, "a"), "e4");
        }
    }

    /** ENTER (SITE -2) and NEXT, so in ROUND 1 in CONTEXT 2; then the OP, then END; NODE 1 is the caller. */
    private static String inRoundOne(int op, int n, String input) {
        House h = new House();
        h.node(ENTER, -2);
        h.node(SAME, 0);
        h.node(NEXT, 0);
        h.node(END, 0);
        h.node(op, n);
        h.arc(0, 0, 2, 0);
        h.arc(2, 0, 4, 0);
        h.arc(1, 0, 3, 0);
        h.arc(4, 0, 3, 0);
        comeTo(h, 0, input);
        inTurn(h, 20);
        return results(h);
    }

    /** "x of 0, 8 to 13, 17" is no such one: it goes where a number would go, an ARRAY too. */
    private static void errorsGoThrough() {
        for (String input : new String[] {"e1", "e2", "e3", "e4", "a"}) {
            String value = input.equals("a") ? "a0" : input;
            due("0", inRoundOne(SAME, 0, input), value + "@2");
            due("8", inRoundOne(ENTER, 4, input), value + "@3");
            due("9", inRoundOne(NEXT, 0, input), value + "@3");
            due("10", inRoundOne(FIRST, 0, input), value + "@1");
            due("11", inRoundOne(LEAVE, 0, input), value + "@0");
            due("12", inRoundOne(CALL, 3, input), value + "@3");
            due("12 of no NODE", inRoundOne(CALL, 99, input), "");
            due("13", inRoundOne(RETURN, 0, input), value + "@0");
            due("17", ended(input), value + "@0");
        }
    }

    private static String ended(String input) {
        House h = with(END);
        comeTo(h, 0, input);
        h.run(9, 0L);
        return results(h);
    }

    /** 17: "x is a RESULT (the next one)", and it is given to no ARC. */
    private static void op17Next() {
        House h = with(END, SAME);
        h.arc(0, 0, 1, 0);
        for (int i = 0; i < 3; i++) {
            h.token(0, 0, 5L - i);
        }
        due("17 went", inTurn(h, 9), 3);
        due("17 RESULTS", results(h), "n5@0 n4@0 n3@0");
    }

    // ---- TRAPS

    /** "If one WAITS there already: TRAP 1": at this PORT, in this CONTEXT. */
    private static void trap1() {
        for (int op : new int[] {PLUS, SWITCH, FETCH, STORE}) {
            for (int port = 0; port < PORTS[op]; port++) {
                House h = with(op);
                h.token(0, port, 1L);
                due("first", h.total(7), 0);
                due("second", h.token(0, port, 2L) + " " + h.total(7) + " " + h.total(2), "true 1 1");
            }
        }
    }

    /** One that is READY does not WAIT: its PORTS are free again. */
    private static void trap1NotOfReady() {
        House h = with(PLUS);
        for (int i = 0; i < 3; i++) {
            h.token(0, 0, 1L);
            h.token(0, 1, 1L);
        }
        due("no TRAP", h.total(7) + " " + h.total(1), "0 3");
    }

    /** One that WAITS in another CONTEXT is no TRAP. */
    private static void trap1NotInOthers() {
        House h = with(ENTER, PLUS);
        h.arc(0, 0, 1, 0);
        h.token(0, 0, 1L);
        h.token(1, 0, 1L);
        h.run(1, 0L);
        due("no TRAP", h.total(7) + " " + h.total(2), "0 2");
        h.token(0, 0, 1L);
        h.run(1, 0L);
        due("TRAP 1 in CONTEXT 1", h.total(7) + " " + h.total(2), "1 2");
    }

    /** The TOKEN that made the TRAP is not there; the one that WAITED keeps its VALUE. */
    private static void trap1KeepsTheFirst() {
        House h = with(STORE, SAME);
        h.arc(1, 0, 0, 0);
        h.token(0, 0, 1L);
        h.token(1, 0, 2L);
        h.run(1, 0L);
        due("one WAITS", h.waiting(0, 0) + " " + h.total(2) + " " + h.total(7), "1 1 1");
    }

    /** 300 that are READY: the next TOKEN is TRAP 2. */
    private static void trap2Ready() {
        House h = with(SAME);
        for (int i = 0; i < 299; i++) {
            h.token(0, 0, 1L);
        }
        due("299", h.total(1) + " " + h.total(7), "299 0");
        due("the 300th", h.token(0, 0, 1L) + " " + h.total(1) + " " + h.total(7), "true 300 0");
        due("one more", h.token(0, 0, 1L) + " " + h.total(1) + " " + h.total(7), "true 300 2");
        due("nothing goes any more", h.run(500, 0L), 0);
    }

    /** NODES 0 to 24: ENTER; 25, 26: SAME; 27 to 32: STORE: 12 WAIT in each CONTEXT that is entered. */
    private static House waiters(int contexts) {
        House h = new House();
        for (int i = 0; i < 25; i++) {
            h.node(ENTER, i);
        }
        h.node(SAME, 0);
        h.node(SAME, 0);
        for (int i = 0; i < 6; i++) {
            h.node(STORE, 0);
        }
        for (int i = 0; i < 25; i++) {
            h.arc(i, 0, 25, 0);
            h.arc(i, 0, 26, 0);
        }
        for (int i = 0; i < 12; i++) {
            h.arc(25 + i / 6, 0, 27 + i / 2, i % 2);
        }
        for (int i = 0; i < contexts; i++) {
            h.token(i, 0, 1L);
            h.run(3, 0L);
        }
        due("12 in each", h.total(2) + " " + h.total(1) + " " + h.total(7), 12 * contexts + " 0 0");
        return h;
    }

    /** 300 that WAIT: the next TOKEN is TRAP 2, wherever it comes. */
    private static void trap2Waiting() {
        House h = waiters(24);
        for (int i = 0; i < 11; i++) {
            h.token(27 + i / 2, i % 2, 1L);
        }
        due("299", h.total(2) + " " + h.total(7), "299 0");
        due("the 300th", h.token(32, 1, 1L) + " " + h.total(2) + " " + h.total(7), "true 300 0");
        due("one more", h.token(25, 0, 1L) + " " + h.total(2) + " " + h.total(1) + " " + h.total(7), "true 300 0 2");
    }

    /** 300 that WAIT: a TOKEN that would make its NODE READY is TRAP 2 too. */
    private static void trap2LastPartner() {
        House h = waiters(25);
        due("300", h.total(2) + " " + h.total(7), "300 0");
        due("a TOKEN to a free PORT", h.token(27, 2, 1L) + " " + h.total(7) + " " + h.total(2), "true 2 300");
        House g = waiters(24);
        for (int i = 0; i < 12; i++) {
            g.token(27 + i / 2, i % 2, 1L);
        }
        due("the third of a STORE", g.token(27, 2, 1L) + " " + g.total(7) + " " + g.total(2), "true 2 300");
    }

    /** "READY (each NODE counts one)": three TOKENS taken away make room for two. */
    private static void trap2ReadyCountsOne() {
        House h = waiters(24);
        for (int i = 0; i < 11; i++) {
            h.token(27 + i / 2, i % 2, 1L);
        }
        h.token(27, 2, 1L);
        due("one READY", h.total(1) + " " + h.total(2) + " " + h.total(7), "1 297 0");
        h.token(27, 0, 1L);
        h.token(27, 1, 1L);
        due("300", h.total(1) + " " + h.total(2) + " " + h.total(7), "1 299 0");
        h.token(32, 1, 1L);
        due("one more", h.total(1) + " " + h.total(2) + " " + h.total(7), "1 299 2");
    }

    /** "(and is no TRAP 1)": at 300, one where one WAITS is TRAP 1. */
    private static void trap2NotWhereTrap1() {
        House h = waiters(24);
        for (int i = 0; i < 12; i++) {
            h.token(27 + i / 2, i % 2, 1L);
        }
        h.token(27, 0, 1L);
        due("TRAP 1", h.total(7), 1);
    }

    /** ARRAY 0 -> SAME 1 to 5 -> FETCH 6 to 35 (PORT 0); ARRAY 36 -> FETCH 37: 'rounds' times 30 are kept. */
    private static House keepers(int rounds) {
        House h = with(ARRAY, SAME, SAME, SAME, SAME, SAME);
        for (int i = 0; i < 30; i++) {
            h.node(FETCH, 0);
        }
        h.node(ARRAY, 0);
        h.node(FETCH, 0);
        h.node(SAME, 0);
        for (int i = 1; i <= 5; i++) {
            h.arc(0, 0, i, 0);
        }
        for (int i = 0; i < 30; i++) {
            h.arc(1 + i / 6, 0, 6 + i, 0);
        }
        h.arc(36, 0, 37, 0);
        for (int round = 0; round < rounds; round++) {
            for (int i = 0; i < 30; i++) {
                h.token(6 + i, 1, 0L);
            }
            h.token(0, 0, 1L);
            h.run(500, 0L);
        }
        return h;
    }

    /** Those kept count: 299 of them and one that is READY; the next TOKEN is TRAP 2. */
    private static void trap2Kept() {
        House h = keepers(9);
        due("270 kept", h.total(6) + " " + h.total(1) + " " + h.total(2) + " " + h.total(7), "270 0 0 0");
        for (int i = 0; i < 29; i++) {
            h.token(37, 1, 0L);
            h.token(36, 0, 1L);
            h.run(2, 0L);
        }
        due("299 kept", h.total(6) + " " + h.total(1) + " " + h.total(2) + " " + h.total(7), "299 0 0 0");
        h.token(38, 0, 1L);
        due("300", h.total(6) + " " + h.total(1) + " " + h.total(7), "299 1 0");
        h.token(38, 0, 1L);
        due("one more", h.total(6) + " " + h.total(1) + " " + h.total(7), "299 1 2");
    }

    /** SAME 0, 300 times READY, leads to so many END. */
    private static House fullOfReady(int arcs) {
        House h = with(SAME, END);
        for (int i = 0; i < arcs; i++) {
            h.arc(0, 0, 1, 0);
        }
        for (int i = 0; i < 300; i++) {
            h.token(0, 0, 1L);
        }
        return h;
    }

    /** One that goes is no longer READY: there is room for one TOKEN, not for two. */
    private static void trap2OfOneThatGoes() {
        House none = fullOfReady(0);
        due("no ARC", none.run(1, 0L) + " " + none.total(1) + " " + none.total(7), "1 299 0");
        House one = fullOfReady(1);
        due("one ARC", one.run(1, 0L) + " " + one.total(1) + " " + one.total(7), "1 300 0");
        House two = fullOfReady(2);
        due("two ARCS", two.run(9, 0L) + " " + two.total(1) + " " + two.total(7), "1 300 2");
        due("the first came", two.ready(299, 0), 1);
    }

    /** A FETCH that is kept brings no TOKEN: no TRAP at 300. */
    private static void trap2NotOfKeeping() {
        House h = with(ARRAY, FETCH, SAME);
        h.arc(0, 0, 1, 0);
        h.token(0, 0, 1L);
        h.run(1, 0L);
        h.token(1, 1, 0L);
        for (int i = 0; i < 299; i++) {
            h.token(2, 0, 1L);
        }
        due("300", h.ready(0, 0) + " " + h.total(1), "1 300");
        due("it is kept", h.run(1, 0L) + " " + h.total(6) + " " + h.total(1) + " " + h.total(7), "1 1 299 0");
        h.token(2, 0, 1L);
        due("it counts", h.total(7), 2);
    }

    /** FETCH is kept, then STORE and so many SAME are READY; FETCH leads to so many END. */
    private static House keptAndFull(int ready, int arcs) {
        House h = with(ARRAY, FETCH, STORE, SAME, END);
        h.arc(0, 0, 1, 0);
        h.arc(0, 0, 2, 0);
        for (int i = 0; i < arcs; i++) {
            h.arc(1, 0, 4, 0);
        }
        h.token(1, 1, 0L);
        h.token(0, 0, 1L);
        h.run(2, 0L);
        store(h, 2, 0L, 5L);
        for (int i = 0; i < ready; i++) {
            h.token(3, 0, 1L);
        }
        return h;
    }

    /** One kept that gets z is no longer kept; STORE and it make room for two TOKENS. */
    private static void trap2OfOneKept() {
        House two = keptAndFull(298, 2);
        due("300", two.total(1) + " " + two.total(6) + " " + two.total(7), "299 1 0");
        due("two ARCS", two.run(1, 0L) + " " + two.total(1) + " " + two.total(6) + " " + two.total(7), "1 300 0 0");
        House three = keptAndFull(298, 3);
        due("three ARCS", three.run(1, 0L) + " " + three.total(1) + " " + three.total(7), "1 300 2");
        due("it is written", cell(three, 0, 0), "0,5,0");
    }

    /** "A TRAP ends the RUN where it comes up: what was done stays": ARCS behind it get nothing. */
    private static void trapWhereItComesUp() {
        House h = with(SAME, PLUS, END, END);
        h.arc(0, 0, 2, 0);
        h.arc(0, 0, 1, 0);
        h.arc(0, 0, 3, 0);
        h.token(1, 0, 9L);
        h.token(0, 0, 1L);
        h.run(9, 0L);
        due("TRAP 1", h.total(7), 1);
        due("before it, not behind it", readies(h), "2@0");
        due("still WAITS", h.waiting(1, 0), 1);
    }

    /** A TRAP by STORE's own ARCS: it is written; those kept get nothing. */
    private static void trapInStore() {
        House h = with(ARRAY, FETCH, STORE, PLUS, END);
        h.arc(0, 0, 1, 0);
        h.arc(0, 0, 2, 0);
        h.arc(2, 0, 3, 0);
        h.arc(1, 0, 4, 0);
        h.token(3, 0, 1L);
        h.token(1, 1, 0L);
        h.token(0, 0, 1L);
        h.run(2, 0L);
        store(h, 2, 0L, 5L);
        due("went", h.run(9, 0L), 1);
        due("TRAP 1", h.total(7) + " " + h.total(1), "1 0");
        due("written", h.cell(0, 0, 0) + " " + h.cell(0, 0, 1), "0 5");
    }

    /** "nothing goes any more", after each TRAP; what is there can be asked for. */
    private static void trapNothingGoes() {
        House one = with(PLUS, SAME);
        one.token(1, 0, 1L);
        one.token(0, 0, 1L);
        one.token(0, 0, 1L);
        House two = with(CALL, SAME);
        two.token(0, 0, 1L);
        two.run(150, 0L);
        two.token(1, 0, 1L);
        two.run(1, 0L);
        House three = stores();
        store(three, 1, 0L, 7L);
        store(three, 2, 0L, 7L);
        three.run(1, 0L);
        three.run(1, 0L);
        House[] all = {one, two, three};
        for (int trap = 1; trap <= 3; trap++) {
            House h = all[trap - 1];
            due("TRAP", h.total(7) + " " + h.total(1), trap + " 1");
            String before = totals(h) + readies(h);
            due("goes", h.run(1, 0L) + h.run(500, -1L), 0);
            due("comes", h.token(0, 0, 1L), false);
            due("all is as before", totals(h) + readies(h), before);
        }
    }

    public static void main(String[] args) {
        runAll(TermBoundsTest.class);
    }
}
