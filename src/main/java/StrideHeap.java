/** Turns given to clients by tickets: each turn goes to the client that is least far. */
public final class StrideHeap {
    private static final int MOST_CLIENTS = 64;
    private static final int BIG_KINDS = 32767;
    private static final int MOST_TURNS = 1000;
    private static final long MOST_PASS = 2147483647L;

    private static final int DONE = 1;
    private static final int NO_CLIENT = -1;
    private static final int NOBODY_IN = -1;
    private static final int NOT_IN = -1;
    private static final int NO_SUCH_PLACE = -1;
    private static final int WRONG_NUMBER = -1;
    private static final int WRONG_STATE = -2;
    private static final int TOO_FAR = -2;
    private static final int WRONG_TICKETS = -3;

    private final int cap;
    private final int big;

    // Tickets are at least 1, so a 0 here marks a client that is not in.
    private final int[] ticketsOf;
    private final int[] strides;
    private final int[] passes;
    private final int[] ran;

    // The clients that are in, always by pass and then by number, so that
    // the first one, the order and the spread need no search.
    private final int[] line;
    private int inLine;

    private int latestLeftPass;

    public StrideHeap(int cap, int big) {
        this.cap = 1 + Math.floorMod(cap, MOST_CLIENTS);
        this.big = 2 + Math.floorMod(big, BIG_KINDS);
        this.ticketsOf = new int[this.cap];
        this.strides = new int[this.cap];
        this.passes = new int[this.cap];
        this.ran = new int[this.cap];
        this.line = new int[this.cap];
        this.inLine = 0;
        this.latestLeftPass = 0;
    }

    public int join(int client, int tickets) {
        if (!isClient(client)) {
            return NO_CLIENT;
        }
        if (isIn(client)) {
            return WRONG_STATE;
        }
        if (!areTickets(tickets)) {
            return WRONG_TICKETS;
        }
        passes[client] = joiningPass();
        giveTickets(client, tickets);
        enterLine(client);
        return DONE;
    }

    public int leave(int client) {
        if (!isClient(client)) {
            return NO_CLIENT;
        }
        if (!isIn(client)) {
            return WRONG_STATE;
        }
        latestLeftPass = passes[client];
        ticketsOf[client] = 0;
        quitLine(client);
        return DONE;
    }

    public int next() {
        return giveTurn();
    }

    public int turns(int many) {
        if (many < 1 || many > MOST_TURNS) {
            return WRONG_NUMBER;
        }
        int given = 0;
        while (given < many && giveTurn() >= 0) {
            given++;
        }
        return given;
    }

    public int change(int client, int tickets) {
        if (!isClient(client)) {
            return NO_CLIENT;
        }
        if (!isIn(client)) {
            return WRONG_STATE;
        }
        if (!areTickets(tickets)) {
            return WRONG_TICKETS;
        }
        int old = ticketsOf[client];
        giveTickets(client, tickets);
        return old;
    }

    public int ranOf(int client) {
        return isClient(client) ? ran[client] : NO_CLIENT;
    }

    public int passOf(int client) {
        return isClient(client) && isIn(client) ? passes[client] : NOT_IN;
    }

    public int strideOf(int client) {
        return isClient(client) && isIn(client) ? strides[client] : NOT_IN;
    }

    public int clients() {
        return inLine;
    }

    public int spread() {
        if (inLine == 0) {
            return NOBODY_IN;
        }
        return passes[line[inLine - 1]] - passes[line[0]];
    }

    public int order(int k) {
        return k >= 0 && k < inLine ? line[k] : NO_SUCH_PLACE;
    }

    private boolean isClient(int client) {
        return client >= 0 && client < cap;
    }

    private boolean isIn(int client) {
        return ticketsOf[client] > 0;
    }

    private boolean areTickets(int tickets) {
        return tickets >= 1 && tickets < big;
    }

    private int joiningPass() {
        return inLine == 0 ? latestLeftPass : passes[line[0]];
    }

    private void giveTickets(int client, int tickets) {
        ticketsOf[client] = tickets;
        strides[client] = big / tickets;
    }

    private int giveTurn() {
        if (inLine == 0) {
            return NOBODY_IN;
        }
        int client = line[0];
        // As a long, since the sum may be above what an int holds.
        long further = (long) passes[client] + strides[client];
        if (further > MOST_PASS) {
            return TOO_FAR;
        }
        passes[client] = (int) further;
        ran[client]++;
        settleFirst();
        return client;
    }

    /** The line has room: it holds each client once, and this one is not in it. */
    private void enterLine(int client) {
        System.arraycopy(line, 0, line, 1, inLine);
        line[0] = client;
        inLine++;
        settleFirst();
    }

    private void quitLine(int client) {
        int place = placeOf(client);
        System.arraycopy(line, place + 1, line, place, inLine - place - 1);
        inLine--;
    }

    private int placeOf(int client) {
        int place = 0;
        while (place < inLine - 1 && line[place] != client) {
            place++;
        }
        return place;
    }

    /** Only the first may stand too far ahead, since only its pass is new. */
    private void settleFirst() {
        int client = line[0];
        int place = 0;
        while (place < inLine - 1 && isBefore(line[place + 1], client)) {
            line[place] = line[place + 1];
            place++;
        }
        line[place] = client;
    }

    private boolean isBefore(int one, int other) {
        if (passes[one] != passes[other]) {
            return passes[one] < passes[other];
        }
        return one < other;
    }
}
