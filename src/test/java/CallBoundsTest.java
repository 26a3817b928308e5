import java.math.BigInteger;
import java.util.ArrayList;
import java.util.List;

/** Each sentence of promises 1 to 12 that refuses a call or names a bound: at the bound and a step to either side. */
public final class CallBoundsTest extends Check {
    private static final BigInteger TWO_64 = BigInteger.ONE.shiftLeft(64);
    private static final long[] PICKS = {0L, 1L, 2L, 3L, 12L, 13L, 14L, 15L, -1L, -2L, Long.MAX_VALUE,
        Long.MAX_VALUE - 1, Long.MIN_VALUE, Long.MIN_VALUE + 1, 1L << 32, 25214903917L, -25214903917L,
        0x0123456789abcdefL, 0xfedcba9876543210L};

    private static void assertSame(String what, House h, String before) {
        due(what + " changes nothing", state(h), before);
    }

    // ---- Promise 1: a new object

    /** 1: "No NODES". */
    private static void p01NoNodes() {
        House h = new House();
        due("1 NODES", h.total(0), 0);
        due("1 waiting", h.waiting(0, 0), -1);
        due("1 token", h.token(0, 0, 1L), false);
        due("1 arc", h.arc(0, 0, 0, 0), false);
        due("1 the first one", h.node(END, 0), 0);
    }

    /** 1: "nothing WAITS". */
    private static void p01NothingWaits() {
        House h = new House();
        due("1 all totals", totals(h), "0 0 0 0 1 0 0 0 0 0");
        h.node(STORE, 0);
        due("1 at the first NODE", h.waiting(0, 0), 0);
    }

    /** An object with nothing in it, asked for all that it could have. */
    private static void p01NothingInIt() {
        House h = new House();
        due("1 ready", h.ready(0, 0) + " " + h.ready(0, 1), "-1 -1");
        due("1 run", h.run(1, 0L) + " " + h.run(500, -1L), "0 0");
        due("1 ROOT", context(h, 0), "-1,0,0");
        due("1 no CONTEXT", thrown(() -> h.context(1, 0)), ELEMENT);
        due("1 no RESULT", thrown(() -> h.result(0, 0)), ELEMENT);
        due("1 no cell", thrown(() -> h.cell(0, 0, 0)), ELEMENT);
        due("1 unchanged", totals(h), "0 0 0 0 1 0 0 0 0 0");
    }

    /** Two objects have nothing in common. */
    private static void p01EachByItself() {
        House a = with(SAME, END);
        a.arc(0, 0, 1, 0);
        a.token(0, 0, 1L);
        a.run(1, 0L);
        due("1 the other one", totals(new House()), "0 0 0 0 1 0 0 0 0 0");
    }

    // ---- Promise 2: node

    /** 2: "A NODE more: its number." */
    private static void p02Number() {
        House h = new House();
        for (int i = 0; i < 40; i++) {
            due("2 NODES before", h.total(0), i);
            due("2 number", h.node(i % OPS, i), i);
        }
        due("2 NODES", h.total(0), 40);
    }

    /** 2: "IllegalArgumentException: no such OP". */
    private static void p02NoSuchOp() {
        House h = new House();
        for (int op : new int[] {-1, OPS, LOW, TOP, -OPS, 256}) {
            due("2 OP " + op, thrown(() -> h.node(op, 0)), ARGUMENT);
        }
        due("2 none was made", h.total(0), 0);
        due("2 the least OP", h.node(0, 0), 0);
        due("2 the greatest OP", h.node(OPS - 1, 0), 1);
    }

    /** Every int may be n. */
    private static void p02AnyNumber() {
        for (int n : new int[] {LOW, -1, 0, 1, TOP}) {
            due("2 n " + n, made(CONSTANT, n, 5L), "n" + n + "@0");
        }
    }

    private static House forty() {
        House h = new House();
        for (int i = 0; i < 40; i++) {
            h.node(SAME, i);
        }
        return h;
    }

    /** 2: "IllegalStateException: there are 40". */
    private static void p02Forty() {
        House h = new House();
        for (int i = 0; i < 39; i++) {
            h.node(SAME, 0);
        }
        due("2 there are 39", h.node(SAME, 0), 39);
        due("2 there are 40", thrown(() -> h.node(SAME, 0)), STATE);
        due("2 still 40", h.total(0), 40);
        due("2 the last one is there", h.token(39, 0, 1L), true);
        due("2 one behind it is not", h.token(40, 0, 1L), false);
    }

    /** The 40 stay through clear(false), and go by clear(true). */
    private static void p02FortyAfterClear() {
        House h = forty();
        h.clear(false);
        due("2 40 after clear(false)", thrown(() -> h.node(SAME, 0)), STATE);
        h.clear(true);
        due("2 none after clear(true)", h.node(SAME, 0), 0);
    }

    /** 2: "IllegalStateException: .. a TOKEN has come since clear()". */
    private static void p02TokenHasCome() {
        House h = with(PLUS);
        due("2 before it", h.node(SAME, 0), 1);
        h.token(0, 0, 1L);
        due("2 while it WAITS", thrown(() -> h.node(SAME, 0)), STATE);
        h.token(0, 1, 1L);
        due("2 while READY", thrown(() -> h.node(SAME, 0)), STATE);
        h.run(1, 0L);
        due("2 when none is left", thrown(() -> h.node(SAME, 0)), STATE);
        due("2 none was made", h.total(0), 2);
    }

    /** A call of token that is refused brings no TOKEN. */
    private static void p02TokenRefused() {
        House h = with(PLUS);
        h.token(0, 2, 1L);
        h.token(0, -1, 1L);
        h.token(1, 0, 1L);
        h.token(-1, 0, 1L);
        due("2 no TOKEN has come", h.node(SAME, 0), 1);
    }

    /** Either clear lets NODES come again, also after a TRAP. */
    private static void p02SinceClear() {
        House h = with(PLUS);
        h.token(0, 0, 1L);
        h.clear(false);
        due("2 since clear(false) none", h.node(SAME, 0), 1);
        h.token(0, 0, 1L);
        h.token(0, 0, 1L);
        due("2 after a TRAP", thrown(() -> h.node(SAME, 0)), STATE);
        h.clear(false);
        due("2 since the TRAP went", h.node(SAME, 0), 2);
        h.token(0, 0, 1L);
        h.clear(true);
        due("2 since clear(true) none", h.node(SAME, 0), 0);
        h.token(0, 0, 1L);
        due("2 again one", thrown(() -> h.node(SAME, 0)), STATE);
    }

    /** Where both exceptions are due, the arguments are looked at first. */
    private static void p02Both() {
        House h = forty();
        due("2 no such OP, and 40", thrown(() -> h.node(OPS, 0)), ARGUMENT);
        House g = with(SAME);
        g.token(0, 0, 1L);
        due("2 no such OP, and a TOKEN", thrown(() -> g.node(-1, 0)), ARGUMENT);
    }

    // ---- Promise 3: arc

    /** What a NODE gives shows how many ARCS it has: six ENDS are asked for it. */
    private static int arcsOf(House h, int node, int end) {
        h.clear(false);
        for (int port = 0; port < 3; port++) {
            h.token(node, port, 1L);
        }
        h.run(1, 0L);
        int count = 0;
        for (int i = 0; i < h.total(1); i++) {
            count += h.ready(i, 0) == end ? 1 : 0;
        }
        return count;
    }

    /** 3: "An ARC more: true". */
    private static void p03True() {
        House h = with(SAME, END);
        due("3 none yet", arcsOf(h, 0, 1), 0);
        for (int i = 1; i <= 6; i++) {
            h.clear(false);
            due("3 ARC " + i, h.arc(0, 0, 1, 0), true);
            due("3 ARCS", arcsOf(h, 0, 1), i);
        }
    }

    /** 3: "false, changing nothing, if there is no such NODE". */
    private static void p03NoSuchNode() {
        House h = with(SAME, END);
        for (int other : new int[] {-1, 2, 40, LOW, TOP}) {
            due("3 from " + other, h.arc(other, 0, 1, 0), false);
            due("3 to " + other, h.arc(0, 0, other, 0), false);
            due("3 both " + other, h.arc(other, 0, other, 0), false);
        }
        due("3 no ARC came", arcsOf(h, 0, 1), 0);
        h.clear(false);
        due("3 the last NODE", h.arc(0, 0, 1, 0) && h.arc(1, 0, 0, 0), true);
    }

    /** 3: "no such .. side": 0 or 1 of a SWITCH, 0 of others. */
    private static void p03NoSuchSide() {
        for (int op = 0; op < OPS; op++) {
            House h = with(op, SAME);
            due("3 side 0 of " + op, h.arc(0, 0, 1, 0), true);
            due("3 side 1 of " + op, h.arc(0, 1, 1, 0), op == SWITCH);
            for (int side : new int[] {-1, 2, LOW, TOP}) {
                due("3 side " + side + " of " + op, h.arc(0, side, 1, 0), false);
            }
        }
    }

    /** An ARC of a side that isn't there doesn't come on another side. */
    private static void p03SideChangesNothing() {
        House h = with(SAME, END);
        h.arc(0, 1, 1, 0);
        h.arc(0, -1, 1, 0);
        h.arc(0, 2, 1, 0);
        due("3 no ARC came", arcsOf(h, 0, 1), 0);
        for (int y = 0; y <= 1; y++) {
            House s = with(SWITCH, END);
            s.arc(0, 2, 1, 0);
            s.arc(0, -1, 1, 0);
            s.token(0, 0, 1L);
            s.token(0, 1, y);
            due("3 nor of a SWITCH", s.run(2, 0L), 1);
        }
    }

    /** 3: "no such .. PORT": as many as the OP has. */
    private static void p03NoSuchPort() {
        for (int op = 0; op < OPS; op++) {
            House h = with(SAME, op);
            for (int port : new int[] {-1, PORTS[op], PORTS[op] + 1, LOW, TOP}) {
                due("3 PORT " + port + " of " + op, h.arc(0, 0, 1, port), false);
            }
            for (int port = 0; port < PORTS[op]; port++) {
                due("3 PORT " + port + " of " + op, h.arc(0, 0, 1, port), true);
            }
            h.token(0, 0, 1L);
            h.run(1, 0L);
            due("3 its PORTS all have theirs " + op, readies(h), "1@0");
        }
    }

    /** 3: "it has six". */
    private static void p03Six() {
        House h = with(SAME, END, SAME);
        for (int i = 1; i <= 5; i++) {
            h.arc(0, 0, 1, 0);
        }
        due("3 the sixth", h.arc(0, 0, 1, 0), true);
        due("3 the seventh", h.arc(0, 0, 1, 0), false);
        due("3 the seventh, to another", h.arc(0, 0, 2, 0), false);
        due("3 six of the other NODE", h.arc(2, 0, 1, 0), true);
        due("3 six stay", arcsOf(h, 0, 1), 6);
        due("3 none to the other", h.total(1), 6);
        h.clear(false);
        due("3 six after clear(false)", h.arc(0, 0, 1, 0), false);
    }

    /** Six from a SWITCH, whatever their sides. */
    private static void p03SixOfSwitch() {
        House h = with(SWITCH, END);
        for (int i = 0; i < 6; i++) {
            due("3 ARC of a SWITCH", h.arc(0, i < 4 ? 1 : 0, 1, 0), true);
        }
        due("3 the seventh", h.arc(0, 0, 1, 0) || h.arc(0, 1, 1, 0), false);
        h.token(0, 0, 1L);
        h.token(0, 1, 0L);
        h.run(1, 0L);
        due("3 two on side 0", h.total(1), 2);
    }

    /** Six is of those that go from a NODE: more may lead to one. */
    private static void p03MoreThanSixTo() {
        House h = with(SAME, SAME, END);
        for (int i = 0; i < 12; i++) {
            due("3 ARC to one PORT", h.arc(i % 2, 0, 2, 0), true);
        }
    }

    /** 3: "a TOKEN has come since clear()". */
    private static void p03TokenHasCome() {
        House h = with(SAME, PLUS, END);
        h.token(9, 0, 1L);
        due("3 a refused TOKEN", h.arc(0, 0, 2, 0), true);
        h.token(1, 0, 1L);
        due("3 while it WAITS", h.arc(0, 0, 2, 0), false);
        h.token(1, 1, 1L);
        h.run(1, 0L);
        due("3 when it is gone", h.arc(0, 0, 2, 0), false);
        due("3 no ARC came", arcsOf(h, 0, 2), 1);
        h.clear(false);
        due("3 since clear(false) none", h.arc(0, 0, 2, 0), true);
        due("3 it came", arcsOf(h, 0, 2), 2);
    }

    /** Refused calls change nothing of what the object tells. */
    private static void p03ChangesNothing() {
        House h = with(SAME, PLUS, END);
        h.arc(0, 0, 2, 0);
        h.token(1, 0, 1L);
        h.token(0, 0, 1L);
        String before = state(h);
        h.arc(0, 0, 2, 0);
        h.arc(3, 0, 2, 0);
        h.arc(0, 1, 2, 0);
        h.arc(0, 0, 2, 1);
        assertSame("3 arc", h, before);
    }

    // ---- Promise 4: token

    /** 4: "A TOKEN with a number comes to a PORT in the ROOT: true". */
    private static void p04True() {
        House h = with(STORE, END);
        due("4 first", h.token(0, 2, Long.MIN_VALUE), true);
        due("4 it WAITS in the ROOT", h.waiting(0, 0) + " " + h.total(2), "1 1");
        due("4 the END", h.token(1, 0, Long.MIN_VALUE) && h.token(1, 0, Long.MAX_VALUE), true);
        h.run(2, 0L);
        due("4 numbers", results(h), "n" + Long.MIN_VALUE + "@0 n" + Long.MAX_VALUE + "@0");
    }

    /** 4: "false, changing nothing, if there is no such NODE". */
    private static void p04NoSuchNode() {
        House h = with(PLUS, PLUS);
        String before = state(h);
        for (int node : new int[] {-1, 2, 40, LOW, TOP}) {
            due("4 NODE " + node, h.token(node, 0, 1L), false);
        }
        assertSame("4 no such NODE", h, before);
        due("4 the first and the last", h.token(0, 0, 1L) && h.token(1, 0, 1L), true);
    }

    /** 4: "false, changing nothing, if there is no such .. PORT". */
    private static void p04NoSuchPort() {
        for (int op = 0; op < OPS; op++) {
            House h = with(op);
            String before = state(h);
            for (int port : new int[] {-1, PORTS[op], PORTS[op] + 1, LOW, TOP}) {
                due("4 PORT " + port + " of " + op, h.token(0, port, 1L), false);
            }
            assertSame("4 no such PORT", h, before);
            for (int port = PORTS[op] - 1; port >= 0; port--) {
                due("4 not READY yet " + op, h.total(1), 0);
                due("4 PORT " + port + " of " + op, h.token(0, port, 1L), true);
            }
            due("4 READY " + op, readies(h), "0@0");
        }
    }

    /** 4: "or the RUN is over by a TRAP" (1, by a TOKEN from outside; that TOKEN itself is answered true). */
    private static void p04OverByTrap1() {
        House h = with(PLUS, SAME);
        h.token(0, 0, 1L);
        due("4 the one that makes the TRAP", h.token(0, 0, 2L) + " " + h.total(7), "true 1");
        String before = state(h);
        due("4 over", h.token(0, 1, 3L) || h.token(1, 0, 1L) || h.token(2, 0, 1L), false);
        assertSame("4 over", h, before);
        h.clear(false);
        due("4 after clear", h.token(0, 0, 1L), true);
    }

    /** 4: the same of TRAP 2 and 3, and of a TRAP that came up in a run. */
    private static void p04OverByOthers() {
        House full = with(ARRAY);
        for (int i = 0; i < 41; i++) {
            full.token(0, 0, 0L);
        }
        full.run(41, 0L);
        due("4 TRAP 2", full.total(7) + " " + full.token(0, 0, 1L) + " " + full.total(1), "2 false 0");
        House twice = with(ARRAY, STORE, STORE);
        twice.arc(0, 0, 1, 0);
        twice.arc(0, 0, 2, 0);
        for (int i = 1; i <= 2; i++) {
            twice.token(i, 1, 0L);
            twice.token(i, 2, 0L);
        }
        twice.token(0, 0, 1L);
        twice.run(3, 0L);
        due("4 TRAP 3", twice.total(7) + " " + twice.token(0, 0, 1L) + " " + twice.total(1), "3 false 0");
    }

    // ---- Promise 5: run

    private static House ring() {
        House h = with(SAME);
        h.arc(0, 0, 0, 0);
        h.token(0, 0, 1L);
        return h;
    }

    /** 5: "n (1 .. 500) times"; "IllegalArgumentException: another n". */
    private static void p05AnotherN() {
        House h = ring();
        String before = state(h);
        for (int n : new int[] {0, -1, 501, 502, LOW, TOP}) {
            due("5 n " + n, thrown(() -> h.run(n, 0L)), ARGUMENT);
        }
        assertSame("5 another n", h, before);
        for (int n : new int[] {1, 2, 499, 500}) {
            due("5 n " + n, h.run(n, 0L), n);
        }
        due("5 in all", h.total(8) + " " + h.total(9), "1002 1002");
    }

    /** 5: "how many went (less, if none is READY ..)". */
    private static void p05NoneReady() {
        House h = with(SAME, PLUS);
        due("5 none", h.run(1, 0L), 0);
        h.token(1, 0, 1L);
        due("5 one that WAITS does not go", h.run(500, 0L), 0);
        for (int i = 0; i < 3; i++) {
            h.token(0, 0, 1L);
        }
        due("5 fewer than there are", h.run(2, 0L), 2);
        due("5 more than there are", h.run(2, 0L), 1);
        for (int i = 0; i < 3; i++) {
            h.token(0, 0, 1L);
        }
        due("5 as many as there are", h.run(3, 0L), 3);
        due("5 none is left", h.run(500, 0L), 0);
        due("5 counted", h.total(8), 6);
    }

    /** 5: "less .. by a TRAP": that which made the TRAP went; behind it none goes. */
    private static void p05ByTrap() {
        House h = with(SAME, PLUS);
        h.arc(0, 0, 1, 0);
        for (int i = 0; i < 4; i++) {
            h.token(0, 0, 1L);
        }
        due("5 the first alone", h.run(1, 0L) + " " + h.total(7), "1 0");
        due("5 the second makes it", h.run(3, 0L) + " " + h.total(7), "1 1");
        due("5 two stay READY", readies(h), "0@0 0@0");
        String before = state(h);
        due("5 none goes any more", h.run(1, 0L) + h.run(500, 7L), 0);
        assertSame("5 run after a TRAP", h, before);
        h.clear(false);
        h.token(0, 0, 1L);
        due("5 after clear", h.run(500, 0L), 1);
    }

    /** Places by the document's words, in numbers that have no bound of their own. */
    private static List<Integer> places(int size, int times, long pick) {
        List<Integer> found = new ArrayList<>();
        BigInteger p = BigInteger.valueOf(pick).mod(TWO_64);
        for (int i = 0; i < times; i++) {
            found.add(p.shiftRight(1).mod(BigInteger.valueOf(size - i)).intValue());
            p = p.multiply(new BigInteger("25214903917")).add(BigInteger.valueOf(11)).mod(TWO_64);
        }
        return found;
    }

    private static void order(int size, int times, long pick) {
        House h = new House();
        List<Integer> left = new ArrayList<>();
        for (int i = 0; i < size; i++) {
            left.add(h.node(END, 0));
        }
        for (int i = 0; i < size; i++) {
            h.token(i, 0, i);
        }
        StringBuilder went = new StringBuilder();
        for (int place : places(size, times, pick)) {
            went.append(went.length() == 0 ? "n" : " n").append(left.remove(place)).append("@0");
        }
        h.run(times, pick);
        due("5 order of " + size + " by " + pick, results(h), went);
        StringBuilder stay = new StringBuilder();
        for (int node : left) {
            stay.append(stay.length() == 0 ? "" : " ").append(node).append("@0");
        }
        due("5 the rest of " + size + " by " + pick, readies(h), stay);
    }

    /** 5: "at place (pick shifted right by 1 without sign) modulo how many are (from 0 on)". */
    private static void p05Place() {
        for (int size = 1; size <= 9; size++) {
            for (long pick : PICKS) {
                order(size, 1, pick);
            }
            for (long pick = 2L * size - 3; pick <= 2L * size + 3; pick++) {
                order(size, 1, pick);
            }
        }
    }

    /** 5: "pick becomes pick * 25214903917 + 11 for the next one", all numbers wrap. */
    private static void p05NextPick() {
        for (int size : new int[] {2, 3, 7, 40}) {
            for (long pick : PICKS) {
                order(size, size, pick);
                order(size, size - 1, pick);
            }
        }
    }

    /** Each call begins with its own pick. */
    private static void p05PickAnew() {
        House h = with(END, END, END, END);
        for (int i = 0; i < 4; i++) {
            h.token(i, 0, i);
        }
        for (int i = 0; i < 4; i++) {
            h.run(1, 2L);
        }
        due("5 place 1 each time", results(h), "n1@0 n2@0 n3@0 n0@0");
    }

    private static House gone(int howMany) {
        House h = ring();
        for (int left = howMany; left > 0; left -= 500) {
            h.run(Math.min(left, 500), left);
        }
        return h;
    }

    /** 5: "IllegalStateException: 5000 have gone in all since the beginning". */
    private static void p05FiveThousand() {
        House h = gone(4999);
        due("5 4999 have gone", h.total(9), 4999);
        due("5 the 5000th", h.run(1, 0L), 1);
        String before = state(h);
        due("5 5000 have gone", thrown(() -> h.run(1, 0L)), STATE);
        due("5 and for more", thrown(() -> h.run(500, 0L)), STATE);
        assertSame("5 run after 5000", h, before);
        due("5 one stays READY", totals(h), "1 1 0 0 1 0 0 0 5000 5000");
    }

    /** 5: "(no more do)": a run that begins below 5000 ends there. */
    private static void p05NoMoreDo() {
        House h = gone(4998);
        due("5 2 of 500", h.run(500, 0L), 2);
        due("5 then it throws", thrown(() -> h.run(1, 0L)), STATE);
        House g = gone(4500);
        due("5 500 of 500", g.run(500, 0L), 500);
        due("5 then it throws", thrown(() -> g.run(500, 0L)), STATE);
        House f = gone(4501);
        due("5 499 of 500", f.run(500, 0L), 499);
    }

    /** 5: "in all since the beginning": clear takes none of them back. */
    private static void p05SinceTheBeginning() {
        House h = gone(4999);
        h.clear(false);
        h.token(0, 0, 1L);
        due("5 one more after clear(false)", h.run(500, 0L), 1);
        h.clear(true);
        due("5 after clear(true)", thrown(() -> h.run(1, 0L)), STATE);
        due("5 counts", h.total(8) + " " + h.total(9), "0 5000");
    }

    /** After 5000 it throws also where none would go; other calls go on. */
    private static void p05OtherCallsGoOn() {
        House h = gone(5000);
        h.clear(false);
        due("5 none READY", thrown(() -> h.run(1, 0L)), STATE);
        due("5 node, arc, token", h.node(END, 0) + " " + h.arc(0, 0, 1, 0) + " " + h.token(0, 0, 1L), "1 true true");
        due("5 READY", readies(h), "0@0");
    }

    /** Where both exceptions are due, the arguments are looked at first. */
    private static void p05Both() {
        House h = gone(5000);
        due("5 n 0", thrown(() -> h.run(0, 0L)), ARGUMENT);
        due("5 n 501", thrown(() -> h.run(501, 0L)), ARGUMENT);
    }

    // ---- Promise 6: clear

    /** ARRAY 0 -> FETCH 1, ENTER 2 -> PLUS 3, END 4; SAME 5: something of every kind is there. */
    private static House busy() {
        House h = new House();
        for (int op : new int[] {ARRAY, FETCH, ENTER, PLUS, END, SAME}) {
            h.node(op, 3);
        }
        h.arc(0, 0, 1, 0);
        h.arc(0, 0, 2, 0);
        h.arc(2, 0, 3, 0);
        h.arc(2, 0, 4, 0);
        h.token(1, 1, 1L);
        h.token(0, 0, 2L);
        h.run(4, 0L);
        h.token(5, 0, 1L);
        h.token(3, 1, 1L);
        return h;
    }

    /** 6: "All TOKENS, CONTEXTS, ARRAYS, RESULTS go" (all false). */
    private static void p06AllFalse() {
        House h = busy();
        due("6 before", totals(h), "6 1 2 1 2 1 1 0 4 4");
        h.clear(false);
        due("6 after", totals(h), "6 0 0 0 1 0 0 0 0 4");
        due("6 nothing READY", h.ready(0, 0), -1);
        due("6 none WAIT", waitings(h), "0 0 0 0 0 0");
        due("6 no CONTEXT 1", thrown(() -> h.context(1, 0)), ELEMENT);
        due("6 the ROOT stays", context(h, 0), "-1,0,0");
        due("6 no RESULT 0", thrown(() -> h.result(0, 0)), ELEMENT);
        due("6 no ARRAY 0", thrown(() -> h.cell(0, 0, 0)), ELEMENT);
        due("6 nothing goes", h.run(500, 0L), 0);
    }

    /** 6: "NODES and ARCS stay": the same TOKENS come to the same end, with the same numbers. */
    private static void p06NodesStay() {
        House h = busy();
        String before = state(h).replace(" 4 4 /", " 4 N /");
        h.clear(false);
        h.token(1, 1, 1L);
        h.token(0, 0, 2L);
        h.run(4, 0L);
        h.token(5, 0, 1L);
        h.token(3, 1, 1L);
        due("6 the same again", state(h).replace(" 4 8 /", " 4 N /"), before);
    }

    /** 6: "or (all true) go". */
    private static void p06AllTrue() {
        House h = busy();
        h.clear(true);
        due("6 after", totals(h), "0 0 0 0 1 0 0 0 0 4");
        due("6 no NODE", h.token(0, 0, 1L) || h.arc(0, 0, 0, 0) || h.waiting(0, 0) != -1, false);
        due("6 nothing goes", h.run(500, 0L), 0);
        due("6 the next is 0", h.node(SAME, 0), 0);
        h.node(SAME, 0);
        h.node(SAME, 0);
        h.token(0, 0, 1L);
        due("6 its ARCS are gone", h.run(500, 0L), 1);
    }

    /** An OP of a NODE that went is not that of the new one. */
    private static void p06NewOps() {
        House h = with(STORE, STORE);
        h.token(0, 0, 1L);
        h.clear(true);
        h.node(END, 0);
        due("6 the new OP", h.token(0, 1, 1L) + " " + h.token(0, 0, 1L) + " " + h.total(1), "false true 1");
    }

    /** 6: "the TRAP too". */
    private static void p06Trap() {
        for (boolean all : new boolean[] {false, true}) {
            House h = with(PLUS);
            h.token(0, 0, 1L);
            h.token(0, 0, 1L);
            due("6 a TRAP", h.total(7), 1);
            h.clear(all);
            due("6 no TRAP", h.total(7), 0);
            if (all) {
                h.node(PLUS, 0);
            }
            due("6 TOKENS come", h.token(0, 0, 1L) && h.token(0, 1, 1L), true);
            due("6 NODES go", h.run(9, 0L), 1);
        }
    }

    /** TOKENS that WAIT in the ROOT and in another CONTEXT go: none is met there afterwards. */
    private static void p06WaitersGo() {
        House h = with(ENTER, PLUS);
        h.arc(0, 0, 1, 0);
        h.token(0, 0, 1L);
        h.run(1, 0L);
        h.token(1, 0, 1L);
        due("6 two WAIT", h.waiting(1, 0) + " " + h.waiting(1, 1), "1 1");
        h.clear(false);
        h.token(0, 0, 1L);
        h.run(1, 0L);
        due("6 one in the new CONTEXT", h.waiting(1, 0) + " " + h.waiting(1, 1), "0 1");
        due("6 no TRAP 1", h.token(1, 0, 1L) + " " + h.total(7), "true 0");
    }

    /** Written cells and those kept for a cell go: a new ARRAY has neither. */
    private static void p06CellsGo() {
        House h = with(ARRAY, STORE, FETCH);
        h.arc(0, 0, 1, 0);
        h.arc(0, 0, 2, 0);
        h.token(1, 1, 0L);
        h.token(1, 2, 7L);
        h.token(2, 1, 1L);
        h.token(0, 0, 2L);
        h.run(3, 0L);
        due("6 written and kept", cell(h, 0, 0) + " " + cell(h, 0, 1), "0,7,0 3,0,1");
        h.clear(false);
        h.token(0, 0, 2L);
        h.run(1, 0L);
        due("6 neither", cell(h, 0, 0) + " " + cell(h, 0, 1) + " " + h.total(6), "3,0,0 3,0,0 0");
    }

    /** The same of the last cells of the 40th ARRAY. */
    private static void p06LastCellsGo() {
        House h = with(ARRAY, ARRAY, STORE, FETCH);
        h.arc(1, 0, 2, 0);
        h.arc(1, 0, 3, 0);
        h.token(2, 1, 7L);
        h.token(2, 2, 5L);
        h.token(3, 1, 6L);
        for (int round = 0; round < 2; round++) {
            for (int i = 0; i < 39; i++) {
                h.token(0, 0, 8L);
            }
            h.run(39, 0L);
            h.token(1, 0, 8L);
            h.run(3, 0L);
            String want = round == 0 ? "3,0,1 0,5,0" : "3,0,0 3,0,0";
            due("6 of ARRAY 39", cell(h, 39, 6) + " " + cell(h, 39, 7), want);
            h.clear(false);
        }
    }

    /** TOKENS of before are not mixed up with those of after, in whatever order the NODES get theirs. */
    private static void p06NotMixedUp() {
        House h = with(MINUS, MINUS, MINUS, MINUS, MINUS, END);
        for (int i = 0; i < 5; i++) {
            h.arc(i, 0, 5, 0);
        }
        for (int i = 0; i < 4; i++) {
            h.token(i, 0, 100L * i);
        }
        h.clear(false);
        for (int i = 4; i >= 0; i--) {
            due("6 comes", h.token(i, 1 - i % 2, i) + " " + h.waiting(i, 0) + " " + h.total(7), "true 1 0");
        }
        due("6 none READY", h.total(1) + " " + waitings(h), "0 1 1 1 1 1 0");
        for (int i = 0; i < 5; i++) {
            h.token(i, i % 2, 10L * i);
        }
        inTurn(h, 10);
        due("6 differences", results(h), "n0@0 n-9@0 n18@0 n-27@0 n36@0");
    }

    /** A clear where there is nothing, and a second one, change nothing. */
    private static void p06Twice() {
        House h = new House();
        h.clear(false);
        h.clear(true);
        due("6 of a new object", totals(h), "0 0 0 0 1 0 0 0 0 0");
        House g = busy();
        g.clear(false);
        String before = state(g);
        g.clear(false);
        assertSame("6 a second one", g, before);
    }

    // ---- Promise 7: ready

    private static House threeReady() {
        House h = new House();
        h.node(ENTER, 5);
        h.node(END, 0);
        h.node(SAME, 0);
        h.arc(0, 0, 1, 0);
        h.token(0, 0, 1L);
        h.token(2, 0, 1L);
        h.token(1, 0, 1L);
        h.run(1, 0L);
        return h;
    }

    /** 7: "Of what is READY at place i, what 0: its NODE, 1: its CONTEXT". */
    private static void p07Answers() {
        due("7 all", readies(threeReady()), "2@0 1@0 1@1");
    }

    /** 7: "NONE if there is none such". */
    private static void p07NoSuchPlace() {
        House h = threeReady();
        for (int i : new int[] {-1, 3, 4, LOW, TOP}) {
            due("7 place " + i, h.ready(i, 0) + " " + h.ready(i, 1), "-1 -1");
        }
        due("7 the first", h.ready(0, 0), 2);
        due("7 the last", h.ready(2, 1), 1);
        h.run(1, 0L);
        due("7 one fewer", h.ready(2, 0) + " " + h.ready(1, 0), "-1 1");
    }

    /** 7: "or for another what". */
    private static void p07AnotherWhat() {
        House h = threeReady();
        for (int what : new int[] {-1, 2, 3, LOW, TOP}) {
            due("7 what " + what, h.ready(0, what) + " " + h.ready(3, what), "-1 -1");
        }
    }

    /** It is told after a TRAP too: what was done stays. */
    private static void p07AfterTrap() {
        House h = with(SAME, PLUS);
        h.token(0, 0, 1L);
        h.token(1, 0, 1L);
        h.token(1, 0, 1L);
        due("7 after a TRAP", h.total(7) + " " + readies(h), "1 0@0");
    }

    // ---- Promise 8: result

    private static House threeResults() {
        House h = new House();
        h.node(END, 0);
        h.node(ENTER, 5);
        h.node(ARRAY, 0);
        h.arc(1, 0, 0, 0);
        h.arc(2, 0, 1, 0);
        h.token(0, 0, -7L);
        h.token(2, 0, 0L);
        h.token(2, 0, 9L);
        inTurn(h, 7);
        return h;
    }

    /** 8: "what 0: 0 a number, 1 an ERROR, 2 an ARRAY, 1: that, 2: its CONTEXT". */
    private static void p08Answers() {
        due("8 all", results(threeResults()), "n-7@0 a0@1 e2@1");
    }

    /** 8: "NoSuchElementException: there is none such". */
    private static void p08NoSuchResult() {
        House h = threeResults();
        for (int i : new int[] {-1, 3, 4, LOW, TOP}) {
            for (int what = 0; what <= 2; what++) {
                int asked = what;
                due("8 RESULT " + i, thrown(() -> h.result(i, asked)), ELEMENT);
            }
        }
        due("8 the last", h.result(2, 1), 2);
    }

    /** 8: "or another what". */
    private static void p08AnotherWhat() {
        House h = threeResults();
        for (int what : new int[] {-1, 3, 4, LOW, TOP}) {
            due("8 what " + what, thrown(() -> h.result(0, what)), ELEMENT);
            due("8 what and RESULT " + what, thrown(() -> h.result(3, what)), ELEMENT);
        }
    }

    // ---- Promise 9: context

    private static House threeContexts() {
        House h = new House();
        h.node(ENTER, -8);
        h.node(ENTER, 6);
        h.node(NEXT, 0);
        h.arc(0, 0, 1, 0);
        h.arc(1, 0, 2, 0);
        h.token(0, 0, 1L);
        h.run(3, 0L);
        return h;
    }

    /** 9: "what 0: that which it is in, 1: its SITE, 2: its ROUND". */
    private static void p09Answers() {
        House h = threeContexts();
        due("9 all", context(h, 1) + " " + context(h, 2) + " " + context(h, 3), "0,-8,0 1,6,0 1,6,1");
    }

    /** 9: "(of the ROOT NONE, 0, 0)". */
    private static void p09Root() {
        due("9 of a new object", context(new House(), 0), "-1,0,0");
        House h = threeContexts();
        due("9 beside others", context(h, 0), "-1,0,0");
        h.clear(false);
        due("9 after clear(false)", context(h, 0), "-1,0,0");
        h.clear(true);
        due("9 after clear(true)", context(h, 0), "-1,0,0");
    }

    /** 9: "NoSuchElementException: there is none such". */
    private static void p09NoSuchContext() {
        House h = threeContexts();
        for (int c : new int[] {-1, 4, 5, 150, 151, LOW, TOP}) {
            for (int what = 0; what <= 2; what++) {
                int asked = what;
                due("9 CONTEXT " + c, thrown(() -> h.context(c, asked)), ELEMENT);
            }
        }
        due("9 the last", h.context(3, 2), 1);
        h.clear(false);
        due("9 none after clear", thrown(() -> h.context(1, 0)), ELEMENT);
    }

    /** 9: "or another what". */
    private static void p09AnotherWhat() {
        House h = threeContexts();
        for (int what : new int[] {-1, 3, 4, LOW, TOP}) {
            due("9 what " + what, thrown(() -> h.context(1, what)), ELEMENT);
            due("9 what of the ROOT " + what, thrown(() -> h.context(0, what)), ELEMENT);
        }
    }

    // ---- Promise 10: cell

    /** ARRAYS of 3, 0, 8 cells. */
    private static House threeArrays() {
        House h = with(ARRAY);
        for (long length : new long[] {3L, 0L, 8L}) {
            h.token(0, 0, length);
            h.run(1, 0L);
        }
        return h;
    }

    /** 10: "NoSuchElementException: there is none such" (ARRAY). */
    private static void p10NoSuchArray() {
        House h = threeArrays();
        for (int array : new int[] {-1, 3, 4, 39, 40, LOW, TOP}) {
            for (int what = 0; what <= 2; what++) {
                int asked = what;
                due("10 ARRAY " + array, thrown(() -> h.cell(array, 0, asked)), ELEMENT);
            }
        }
        due("10 the first and the last", h.cell(0, 0, 0) + " " + h.cell(2, 0, 0), "3 3");
    }

    /** 10: "NoSuchElementException: there is none such" (cell). */
    private static void p10NoSuchCell() {
        House h = threeArrays();
        int[] lengths = {3, 0, 8};
        for (int a = 0; a < 3; a++) {
            int array = a;
            for (int i : new int[] {-1, lengths[a], lengths[a] + 1, LOW, TOP}) {
                due("10 cell " + i + " of " + a, thrown(() -> h.cell(array, i, 0)), ELEMENT);
            }
            for (int i = 0; i < lengths[a]; i++) {
                due("10 cell " + i + " of " + a, h.cell(a, i, 0), 3);
            }
        }
    }

    /** A shorter ARRAY of the same number, after clear, has only its own cells. */
    private static void p10ShorterAfterClear() {
        House h = with(ARRAY);
        h.token(0, 0, 8L);
        h.run(1, 0L);
        h.clear(false);
        h.token(0, 0, 2L);
        h.run(1, 0L);
        due("10 the last", h.cell(0, 1, 0), 3);
        due("10 one behind it", thrown(() -> h.cell(0, 2, 0)), ELEMENT);
    }

    /** 10: "or another what". */
    private static void p10AnotherWhat() {
        House h = threeArrays();
        for (int what : new int[] {-1, 3, 4, LOW, TOP}) {
            due("10 what " + what, thrown(() -> h.cell(0, 0, what)), ELEMENT);
        }
    }

    /** ARRAY 0 -> STORE 1 (z from outside or by NODE 3), FETCH 2 -> END 4. */
    private static House arrayOfOne() {
        House h = with(ARRAY, STORE, FETCH, DIVIDE, END);
        h.arc(0, 0, 1, 0);
        h.arc(0, 0, 2, 0);
        h.arc(3, 0, 1, 2);
        h.arc(2, 0, 4, 0);
        h.token(0, 0, 1L);
        h.run(1, 0L);
        return h;
    }

    /** 10: "3 not written, 1: that (0 if not written)". */
    private static void p10NotWritten() {
        House h = arrayOfOne();
        due("10 not written", cell(h, 0, 0), "3,0,0");
    }

    /** 10: "0 a number", also where that is 0. */
    private static void p10NumberNought() {
        for (long z : new long[] {0L, -1L, 1L, Long.MIN_VALUE}) {
            House h = arrayOfOne();
            h.token(1, 1, 0L);
            h.token(1, 2, z);
            h.run(1, 0L);
            due("10 a number", cell(h, 0, 0), "0," + z + ",0");
        }
    }

    /** 10: "1 an ERROR", "2 an ARRAY". */
    private static void p10OtherKinds() {
        House h = arrayOfOne();
        h.token(1, 1, 0L);
        h.token(3, 0, 1L);
        h.token(3, 1, 0L);
        h.run(2, 0L);
        due("10 an ERROR", cell(h, 0, 0), "1,1,0");
        House g = with(ARRAY, STORE, ARRAY);
        g.arc(0, 0, 1, 0);
        g.arc(2, 0, 1, 2);
        g.token(1, 1, 0L);
        g.token(0, 0, 1L);
        g.run(1, 0L);
        g.token(2, 0, 0L);
        g.run(2, 0L);
        due("10 an ARRAY", cell(g, 0, 0), "2,1,0");
    }

    /** 10: "2: how many are kept for it": none, one, two, and none again when it is written. */
    private static void p10Kept() {
        House h = with(ARRAY, STORE, FETCH, FETCH);
        for (int to = 1; to <= 3; to++) {
            h.arc(0, 0, to, 0);
        }
        h.token(0, 0, 2L);
        h.run(1, 0L);
        due("10 none", h.cell(0, 1, 2) + " " + h.total(6), "0 0");
        h.token(2, 1, 1L);
        h.run(1, 0L);
        due("10 one", h.cell(0, 1, 2) + " " + h.total(6), "1 1");
        h.token(3, 1, 1L);
        h.run(1, 0L);
        due("10 two", h.cell(0, 1, 2) + " " + h.total(6), "2 2");
        due("10 none for another cell", h.cell(0, 0, 2), 0);
        h.token(1, 1, 1L);
        h.token(1, 2, 5L);
        h.run(1, 0L);
        due("10 written", cell(h, 0, 1) + " " + h.total(6), "0,5,0 0");
    }

    // ---- Promise 11: waiting

    /** 11: "How many TOKENS WAIT at a NODE in a CONTEXT": 0, 1, 2, and 0 when all PORTS have theirs. */
    private static void p11Answers() {
        House h = with(STORE, STORE);
        for (int port = 0; port < 3; port++) {
            due("11 so many", h.waiting(0, 0) + " " + h.total(2), port + " " + port);
            h.token(0, port, 1L);
        }
        due("11 all taken away", h.waiting(0, 0) + " " + h.total(2), "0 0");
        due("11 none at the other", h.waiting(1, 0), 0);
        h.token(0, 1, 1L);
        due("11 while READY too", h.waiting(0, 0) + " " + h.total(1), "1 1");
    }

    /** Each CONTEXT by itself. */
    private static void p11EachContext() {
        House h = with(STORE, ENTER);
        h.arc(1, 0, 0, 0);
        h.arc(1, 0, 0, 1);
        h.token(0, 0, 1L);
        h.token(1, 0, 1L);
        h.run(1, 0L);
        due("11 one, two", h.waiting(0, 0) + " " + h.waiting(0, 1) + " " + h.total(2), "1 2 3");
    }

    /** 11: "NONE if there are none such" (NODE). */
    private static void p11NoSuchNode() {
        House h = with(STORE, STORE);
        for (int node : new int[] {-1, 2, 3, 40, LOW, TOP}) {
            due("11 NODE " + node, h.waiting(node, 0), -1);
        }
        due("11 the last", h.waiting(1, 0), 0);
    }

    /** 11: "NONE if there are none such" (CONTEXT). */
    private static void p11NoSuchContext() {
        House h = threeContexts();
        for (int c : new int[] {-1, 4, 5, 151, LOW, TOP}) {
            due("11 CONTEXT " + c, h.waiting(0, c), -1);
        }
        due("11 the last", h.waiting(0, 3), 0);
        h.clear(false);
        due("11 after clear", h.waiting(0, 0) + " " + h.waiting(0, 1), "0 -1");
    }

    // ---- Promise 12: total

    /** 12: "NONE for another what". */
    private static void p12AnotherWhat() {
        House h = busy();
        for (int what : new int[] {-1, 10, 11, LOW, TOP}) {
            due("12 what " + what, h.total(what), -1);
        }
        due("12 the least and the greatest", h.total(0) + " " + h.total(9), "6 4");
    }

    /** 12: each total a step up and down. */
    private static void p12Steps() {
        House h = with(SAME, PLUS, END);
        h.arc(0, 0, 2, 0);
        due("12 NODES", totals(h), "3 0 0 0 1 0 0 0 0 0");
        h.token(0, 0, 1L);
        due("12 READY", totals(h), "3 1 0 0 1 0 0 0 0 0");
        h.token(1, 0, 1L);
        due("12 WAIT", totals(h), "3 1 1 0 1 0 0 0 0 0");
        h.run(1, 0L);
        due("12 went", totals(h), "3 1 1 0 1 0 0 0 1 1");
        h.run(1, 0L);
        due("12 RESULTS", totals(h), "3 0 1 1 1 0 0 0 2 2");
    }

    /** 12: "7: the TRAP (0 without)". */
    private static void p12Trap() {
        House h = with(PLUS);
        due("12 without", h.total(7), 0);
        h.token(0, 0, 1L);
        due("12 still without", h.total(7), 0);
        h.token(0, 0, 1L);
        due("12 TRAP 1", h.total(7), 1);
        h.clear(false);
        due("12 gone", h.total(7), 0);
    }

    /** 12: "8: how often NODES went since clear(), 9: in all". */
    private static void p12Went() {
        House h = ring();
        due("12 none", h.total(8) + " " + h.total(9), "0 0");
        h.run(3, 0L);
        h.run(2, 0L);
        due("12 five", h.total(8) + " " + h.total(9), "5 5");
        h.clear(false);
        due("12 since clear(false)", h.total(8) + " " + h.total(9), "0 5");
        h.token(0, 0, 1L);
        h.run(4, 0L);
        due("12 four more", h.total(8) + " " + h.total(9), "4 9");
        h.clear(true);
        due("12 since clear(true)", h.total(8) + " " + h.total(9), "0 9");
    }

    public static void main(String[] args) {
        runAll(CallBoundsTest.class);
    }
}
