import java.util.ArrayList;
import java.util.NoSuchElementException;

/** A machine of tokens. Words in capitals are those of the document's section 'Terms'. */
public final class TokenHouse {
    public static final int NONE = -1;

    private static final int MOST_NODES = 40;
    private static final int MOST_ARCS = 6;
    private static final int MOST_PORTS = 3;
    private static final int MOST_CONTEXTS = 151;
    private static final int MOST_ARRAYS = 40;
    private static final int MOST_CELLS = 8;
    private static final int MOST_HELD = 300;
    private static final int MOST_TIMES = 500;
    private static final int MOST_GOINGS = 5000;

    private static final long PICK_FACTOR = 25214903917L;
    private static final long PICK_STEP = 11L;

    private static final int ROOT = 0;

    private static final int NUMBER = 0;
    private static final int ERROR = 1;
    private static final int ARRAY = 2;
    private static final int NOTHING = 3;

    private static final int DIVIDED_BY_ZERO = 1;
    private static final int BAD_LENGTH = 2;
    private static final int NO_CELL = 3;
    private static final int WRONG_KIND = 4;
    private static final int NO_ERROR = 5;

    private static final int NO_TRAP = 0;
    private static final int TRAP_TAKEN = 1;
    private static final int TRAP_FULL = 2;
    private static final int TRAP_WRITTEN = 3;

    private static final int OP_SAME = 0;
    private static final int OP_PLUS = 1;
    private static final int OP_MINUS = 2;
    private static final int OP_TIMES = 3;
    private static final int OP_DIVIDE = 4;
    private static final int OP_LESS = 5;
    private static final int OP_CONSTANT = 6;
    private static final int OP_SWITCH = 7;
    private static final int OP_ENTER = 8;
    private static final int OP_NEXT_ROUND = 9;
    private static final int OP_FIRST_ROUND = 10;
    private static final int OP_LEAVE = 11;
    private static final int OP_CALL = 12;
    private static final int OP_RETURN = 13;
    private static final int OP_ARRAY = 14;
    private static final int OP_FETCH = 15;
    private static final int OP_STORE = 16;
    private static final int OP_END = 17;

    private static final int[] PORTS = {1, 2, 2, 2, 2, 2, 1, 2, 1, 1, 1, 1, 1, 1, 1, 2, 3, 1};

    private static final int WANT_ANY = 0;
    private static final int WANT_NO_ERROR = 1;
    private static final int WANT_NUMBER = 2;
    private static final int WANT_ARRAY = 3;

    /** What each OP wants at PORT 0 and at PORT 1; a SWITCH looks at its y itself, STORE takes any z. */
    private static final int[] WANTED_X = {0, 2, 2, 2, 2, 2, 1, 0, 0, 0, 0, 0, 0, 0, 2, 3, 3, 0};
    private static final int[] WANTED_Y = {0, 2, 2, 2, 2, 2, 0, 0, 0, 0, 0, 0, 0, 0, 0, 2, 2, 0};

    private final Value nothing;
    private final ArrayList<Node> nodes;
    private final Frames frames;
    private final ArrayList<Frame> readyFrames;
    private final Contexts contexts;
    private final Cells cells;
    private final ArrayList<Result> results;
    private int waitingTokens;
    private int keptFetches;
    private int trap;
    private int wentSinceClear;
    private int wentInAll;
    private boolean begun;

    public TokenHouse() {
        nothing = new Value(NOTHING, 0L);
        nodes = new ArrayList<Node>();
        frames = new Frames(nothing);
        readyFrames = new ArrayList<Frame>();
        contexts = new Contexts();
        cells = new Cells(nothing);
        results = new ArrayList<Result>();
    }

    public int node(int op, int n) throws IllegalArgumentException, IllegalStateException {
        if (op < 0 || op >= PORTS.length) {
            throw new IllegalArgumentException("no such OP");
        }
        if (nodes.size() >= MOST_NODES || begun) {
            throw new IllegalStateException("no NODE more now");
        }
        int number = nodes.size();
        nodes.add(new Node(number, op, n, PORTS[op], WANTED_X[op], WANTED_Y[op]));
        return number;
    }

    public boolean arc(int from, int side, int to, int port) {
        Node source = nodeAt(from);
        Node target = nodeAt(to);
        if (begun || source == null || target == null) {
            return false;
        }
        if (!source.hasSide(side) || !target.hasPort(port)) {
            return false;
        }
        return source.addArc(side, target, port);
    }

    public boolean token(int node, int port, long v) {
        Node target = nodeAt(node);
        if (target == null || !target.hasPort(port) || trap != NO_TRAP) {
            return false;
        }
        begun = true;
        come(target, port, new Value(NUMBER, v), ROOT);
        return true;
    }

    public int run(int n, long pick) throws IllegalArgumentException, IllegalStateException {
        if (n < 1 || n > MOST_TIMES) {
            throw new IllegalArgumentException("n is not 1 .. 500");
        }
        if (wentInAll >= MOST_GOINGS) {
            throw new IllegalStateException("5000 have gone");
        }
        long picked = pick;
        int went = 0;
        while (went < n && trap == NO_TRAP && wentInAll < MOST_GOINGS) {
            int size = readyFrames.size();
            if (size == 0) {
                break;
            }
            int place = (int) ((picked >>> 1) % size);
            picked = picked * PICK_FACTOR + PICK_STEP;
            went++;
            wentSinceClear++;
            wentInAll++;
            go(readyFrames.remove(place));
        }
        return went;
    }

    public void clear(boolean all) {
        if (all) {
            nodes.clear();
        }
        for (int i = 0; i < nodes.size(); i++) {
            nodes.get(i).frames.clear();
        }
        readyFrames.clear();
        cells.forgetAll();
        frames.takeAllBack();
        contexts.forgetAll();
        results.clear();
        waitingTokens = 0;
        keptFetches = 0;
        trap = NO_TRAP;
        wentSinceClear = 0;
        begun = false;
    }

    public int ready(int i, int what) {
        if (i < 0 || i >= readyFrames.size()) {
            return NONE;
        }
        Frame frame = readyFrames.get(i);
        switch (what) {
            case 0: return frame.node.number;
            case 1: return frame.context;
            default: return NONE;
        }
    }

    public long result(int i, int what) throws NoSuchElementException {
        if (i < 0 || i >= results.size() || what < 0 || what > 2) {
            throw new NoSuchElementException("no such RESULT");
        }
        Result found = results.get(i);
        switch (what) {
            case 0: return found.value.kind;
            case 1: return found.value.number;
            default: return found.context;
        }
    }

    public int context(int c, int what) throws NoSuchElementException {
        if (!contexts.has(c) || what < 0 || what > 2) {
            throw new NoSuchElementException("no such CONTEXT");
        }
        switch (what) {
            case 0: return contexts.outside[c];
            case 1: return contexts.site[c];
            default: return contexts.round[c];
        }
    }

    public long cell(int array, int i, int what) throws NoSuchElementException {
        Cell found = cells.at(array, i);
        if (found == null || what < 0 || what > 2) {
            throw new NoSuchElementException("no such cell");
        }
        switch (what) {
            case 0: return found.value.kind;
            case 1: return found.value.number;
            default: return found.kept.size();
        }
    }

    public int waiting(int node, int context) {
        Node asked = nodeAt(node);
        if (asked == null || !contexts.has(context)) {
            return NONE;
        }
        Frame frame = asked.frameIn(context);
        return frame == null ? 0 : frame.came;
    }

    public int total(int what) {
        switch (what) {
            case 0: return nodes.size();
            case 1: return readyFrames.size();
            case 2: return waitingTokens;
            case 3: return results.size();
            case 4: return contexts.count;
            case 5: return cells.arrays;
            case 6: return keptFetches;
            case 7: return trap;
            case 8: return wentSinceClear;
            case 9: return wentInAll;
            default: return NONE;
        }
    }

    private Node nodeAt(int number) {
        return number < 0 || number >= nodes.size() ? null : nodes.get(number);
    }

    private void come(Node node, int port, Value value, int context) {
        if (trap != NO_TRAP) {
            return;
        }
        Frame frame = node.frameIn(context);
        if (frame != null && frame.holds(port)) {
            trap = TRAP_TAKEN;
            return;
        }
        if (waitingTokens + readyFrames.size() + keptFetches >= MOST_HELD) {
            trap = TRAP_FULL;
            return;
        }
        if (frame == null) {
            frame = frames.take(node, context);
            node.frames.add(frame);
        }
        frame.put(port, value);
        waitingTokens++;
        if (frame.came == node.ports) {
            waitingTokens -= node.ports;
            node.dropFrameIn(context);
            readyFrames.add(frame);
        }
    }

    private void give(Node node, Value value, int context) {
        for (int i = 0; i < node.arcs.size(); i++) {
            Arc arc = node.arcs.get(i);
            come(arc.to, arc.port, value, context);
        }
    }

    private void giveOnSide(Node node, int side, Value value, int context) {
        for (int i = 0; i < node.arcs.size(); i++) {
            Arc arc = node.arcs.get(i);
            if (arc.side == side) {
                come(arc.to, arc.port, value, context);
            }
        }
    }

    /** The frame goes back before the NODE acts, so that what comes of it can use that frame at once. */
    private void go(Frame frame) {
        Node node = frame.node;
        int context = frame.context;
        Value x = frame.values[0];
        Value y = frame.values[1];
        Value z = frame.values[2];
        frames.takeBack(frame);
        int error = Math.min(errorOf(x, node.wantedX), errorOf(y, node.wantedY));
        if (error != NO_ERROR) {
            give(node, new Value(ERROR, error), context);
            return;
        }
        switch (node.op) {
            case OP_SWITCH:
                choose(node, context, x, y);
                break;
            case OP_ENTER:
            case OP_NEXT_ROUND:
            case OP_FIRST_ROUND:
            case OP_LEAVE:
                move(node, context, x);
                break;
            case OP_CALL:
                enterCall(node, context, x);
                break;
            case OP_RETURN:
                leaveCall(context, x);
                break;
            case OP_ARRAY:
                makeArray(node, context, x.number);
                break;
            case OP_FETCH:
                fetch(node, context, cells.at(x.number, y.number));
                break;
            case OP_STORE:
                store(node, context, cells.at(x.number, y.number), z);
                break;
            case OP_END:
                results.add(new Result(x, context));
                break;
            default:
                give(node, reckoned(node, x, y), context);
                break;
        }
    }

    /** ERROR 4 is the greatest: so the least of all is also right where one came beside a wrong kind. */
    private static int errorOf(Value value, int wanted) {
        if (wanted == WANT_ANY) {
            return NO_ERROR;
        }
        if (value.kind == ERROR) {
            return (int) value.number;
        }
        if (wanted == WANT_NUMBER && value.kind != NUMBER) {
            return WRONG_KIND;
        }
        if (wanted == WANT_ARRAY && value.kind != ARRAY) {
            return WRONG_KIND;
        }
        return NO_ERROR;
    }

    private static Value reckoned(Node node, Value x, Value y) {
        switch (node.op) {
            case OP_PLUS: return new Value(NUMBER, x.number + y.number);
            case OP_MINUS: return new Value(NUMBER, x.number - y.number);
            case OP_TIMES: return new Value(NUMBER, x.number * y.number);
            case OP_DIVIDE: return quotient(x.number, y.number);
            case OP_LESS: return new Value(NUMBER, x.number < y.number ? 1L : 0L);
            case OP_CONSTANT: return new Value(NUMBER, node.n);
            case OP_SAME:
            default: return x;
        }
    }

    private static Value quotient(long x, long y) {
        if (y == 0L) {
            return new Value(ERROR, DIVIDED_BY_ZERO);
        }
        return new Value(NUMBER, x / y);
    }

    private void choose(Node node, int context, Value x, Value y) {
        if (y.kind == NUMBER) {
            giveOnSide(node, y.number == 0L ? 0 : 1, x, context);
            return;
        }
        Value error = y.kind == ERROR ? y : new Value(ERROR, WRONG_KIND);
        giveOnSide(node, 0, error, context);
        giveOnSide(node, 1, error, context);
    }

    private void move(Node node, int context, Value x) {
        int target = contextBehind(node, context);
        if (target == NONE) {
            trap = TRAP_FULL;
        } else {
            give(node, x, target);
        }
    }

    private int contextBehind(Node node, int context) {
        switch (node.op) {
            case OP_ENTER: return contexts.numberOf(context, node.n, 0);
            case OP_NEXT_ROUND: return contexts.nextRoundOf(context);
            case OP_FIRST_ROUND: return contexts.firstRoundOf(context);
            default: return contexts.outsideOf(context);
        }
    }

    /** A call of no NODE makes no CONTEXT either. */
    private void enterCall(Node node, int context, Value x) {
        Node called = nodeAt(node.n);
        if (called == null) {
            return;
        }
        int inner = contexts.numberOf(context, -1 - node.number, 0);
        if (inner == NONE) {
            trap = TRAP_FULL;
        } else {
            come(called, 0, x, inner);
        }
    }

    /** A SITE of 0 or more (the ROOT's too) asks for a NODE below 0, and there is none. */
    private void leaveCall(int context, Value x) {
        Node caller = nodeAt(-1 - contexts.siteOf(context));
        if (caller != null) {
            give(caller, x, contexts.outsideOf(context));
        }
    }

    private void makeArray(Node node, int context, long length) {
        if (length < 0L || length > MOST_CELLS) {
            give(node, new Value(ERROR, BAD_LENGTH), context);
            return;
        }
        int array = cells.makeArray((int) length);
        if (array == NONE) {
            trap = TRAP_FULL;
        } else {
            give(node, new Value(ARRAY, array), context);
        }
    }

    private void fetch(Node node, int context, Cell cell) {
        if (cell == null) {
            give(node, new Value(ERROR, NO_CELL), context);
        } else if (cell.isWritten()) {
            give(node, cell.value, context);
        } else {
            cell.kept.add(frames.take(node, context));
            keptFetches++;
        }
    }

    /** Each one kept for the cell is kept until its own turn: those behind a TRAP stay kept. */
    private void store(Node node, int context, Cell cell, Value z) {
        if (cell == null) {
            give(node, new Value(ERROR, NO_CELL), context);
            return;
        }
        if (cell.isWritten()) {
            trap = TRAP_WRITTEN;
            return;
        }
        cell.value = z;
        give(node, z, context);
        for (int left = cell.kept.size(); left > 0 && trap == NO_TRAP; left--) {
            Frame frame = cell.kept.remove(0);
            Node keptNode = frame.node;
            int keptContext = frame.context;
            keptFetches--;
            frames.takeBack(frame);
            give(keptNode, z, keptContext);
        }
    }

    /** A VALUE, or (of kind NOTHING) the want of one at a PORT or in a cell. */
    private static final class Value {
        final int kind;
        final long number;

        Value(int kind, long number) {
            this.kind = kind;
            this.number = number;
        }
    }

    private static final class Result {
        final Value value;
        final int context;

        Result(Value value, int context) {
            this.value = value;
            this.context = context;
        }
    }

    private static final class Arc {
        final int side;
        final Node to;
        final int port;

        Arc(int side, Node to, int port) {
            this.side = side;
            this.to = to;
            this.port = port;
        }
    }

    /** A NODE with its ARCS and, for each CONTEXT in which TOKENS WAIT at it, a frame. */
    private static final class Node {
        final int number;
        final int op;
        final int n;
        final int ports;
        final int wantedX;
        final int wantedY;
        final ArrayList<Arc> arcs;
        final ArrayList<Frame> frames;

        Node(int number, int op, int n, int ports, int wantedX, int wantedY) {
            this.number = number;
            this.op = op;
            this.n = n;
            this.ports = ports;
            this.wantedX = wantedX;
            this.wantedY = wantedY;
            this.arcs = new ArrayList<Arc>();
            this.frames = new ArrayList<Frame>();
        }

        boolean hasSide(int side) {
            return side == 0 || side == 1 && op == OP_SWITCH;
        }

        boolean hasPort(int port) {
            return port >= 0 && port < ports;
        }

        boolean addArc(int side, Node to, int port) {
            if (arcs.size() >= MOST_ARCS) {
                return false;
            }
            arcs.add(new Arc(side, to, port));
            return true;
        }

        Frame frameIn(int context) {
            for (int i = 0; i < frames.size(); i++) {
                Frame frame = frames.get(i);
                if (frame.context == context) {
                    return frame;
                }
            }
            return null;
        }

        void dropFrameIn(int context) {
            for (int i = 0; i < frames.size(); i++) {
                if (frames.get(i).context == context) {
                    frames.remove(i);
                    return;
                }
            }
        }
    }

    /** What has come to a NODE in a CONTEXT: it WAITS with the NODE, is READY, or is kept with a cell. */
    private static final class Frame {
        final Value nothing;
        final Value[] values;
        Node node;
        int context;
        int came;

        Frame(Value nothing, Node node, int context) {
            this.nothing = nothing;
            this.values = new Value[MOST_PORTS];
            this.node = node;
            this.context = context;
            for (int i = 0; i < MOST_PORTS; i++) {
                values[i] = nothing;
            }
        }

        boolean holds(int port) {
            return port >= 0 && port < values.length && values[port].kind != NOTHING;
        }

        void put(int port, Value value) {
            if (port >= 0 && port < values.length) {
                values[port] = value;
                came++;
            }
        }

        void empty() {
            for (int i = 0; i < values.length; i++) {
                values[i] = nothing;
            }
            came = 0;
        }
    }

    /** Frames are used again, so that long runs make no more than can be held at once. */
    private static final class Frames {
        final Value nothing;
        final ArrayList<Frame> made;
        final ArrayList<Frame> free;

        Frames(Value nothing) {
            this.nothing = nothing;
            this.made = new ArrayList<Frame>();
            this.free = new ArrayList<Frame>();
        }

        Frame take(Node node, int context) {
            if (free.isEmpty()) {
                Frame fresh = new Frame(nothing, node, context);
                made.add(fresh);
                return fresh;
            }
            Frame frame = free.remove(free.size() - 1);
            frame.node = node;
            frame.context = context;
            return frame;
        }

        void takeBack(Frame frame) {
            frame.empty();
            free.add(frame);
        }

        void takeAllBack() {
            free.clear();
            for (int i = 0; i < made.size(); i++) {
                takeBack(made.get(i));
            }
        }
    }

    private static final class Contexts {
        final int[] outside;
        final int[] site;
        final int[] round;
        int count;

        Contexts() {
            outside = new int[MOST_CONTEXTS];
            site = new int[MOST_CONTEXTS];
            round = new int[MOST_CONTEXTS];
            outside[ROOT] = NONE;
            count = 1;
        }

        boolean has(int context) {
            return context >= 0 && context < count && context < MOST_CONTEXTS;
        }

        /** The CONTEXT told by these three, a new one if need be; NONE if there may be no more. */
        int numberOf(int outer, int itsSite, int itsRound) {
            for (int c = ROOT + 1; c < count && c < MOST_CONTEXTS; c++) {
                if (outside[c] == outer && site[c] == itsSite && round[c] == itsRound) {
                    return c;
                }
            }
            if (count >= MOST_CONTEXTS) {
                return NONE;
            }
            int fresh = count;
            outside[fresh] = outer;
            site[fresh] = itsSite;
            round[fresh] = itsRound;
            count++;
            return fresh;
        }

        int nextRoundOf(int context) {
            if (context == ROOT || !has(context)) {
                return ROOT;
            }
            return numberOf(outside[context], site[context], round[context] + 1);
        }

        int firstRoundOf(int context) {
            if (context == ROOT || !has(context)) {
                return ROOT;
            }
            return numberOf(outside[context], site[context], 0);
        }

        int outsideOf(int context) {
            return context == ROOT || !has(context) ? ROOT : outside[context];
        }

        int siteOf(int context) {
            return has(context) ? site[context] : 0;
        }

        void forgetAll() {
            count = 1;
        }
    }

    private static final class Cell {
        final ArrayList<Frame> kept;
        Value value;

        Cell(Value nothing) {
            this.kept = new ArrayList<Frame>();
            this.value = nothing;
        }

        boolean isWritten() {
            return value.kind != NOTHING;
        }
    }

    /** The cells of all ARRAYS, made when an ARRAY of that number first needs them and then used again. */
    private static final class Cells {
        final Value nothing;
        final Cell[] row;
        final int[] lengths;
        int arrays;

        Cells(Value nothing) {
            this.nothing = nothing;
            this.row = new Cell[MOST_ARRAYS * MOST_CELLS];
            this.lengths = new int[MOST_ARRAYS];
        }

        int makeArray(int length) {
            if (arrays >= MOST_ARRAYS || length < 0 || length > MOST_CELLS) {
                return NONE;
            }
            int array = arrays;
            int first = array * MOST_CELLS;
            for (int i = first; i < first + length && i < row.length; i++) {
                if (row[i] == null) {
                    row[i] = new Cell(nothing);
                }
            }
            lengths[array] = length;
            arrays++;
            return array;
        }

        Cell at(long array, long i) {
            if (array < 0L || array >= arrays || array >= lengths.length) {
                return null;
            }
            if (i < 0L || i >= lengths[(int) array]) {
                return null;
            }
            int place = (int) array * MOST_CELLS + (int) i;
            return place < row.length ? row[place] : null;
        }

        void forgetAll() {
            for (int i = 0; i < arrays * MOST_CELLS && i < row.length; i++) {
                if (row[i] != null) {
                    row[i].value = nothing;
                    row[i].kept.clear();
                }
            }
            arrays = 0;
        }
    }
}
