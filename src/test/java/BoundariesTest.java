/**
 * Each sentence of the document that names a boundary case, in a test of its own: what is too
 * small or too large, empty or full, wraps around, or is refused.
 */
public final class BoundariesTest {
    private static final int LEAST_INT = Integer.MIN_VALUE;
    private static final int MOST_INT = Integer.MAX_VALUE;
    private static final int GREATEST_PASS = 2147483647;

    /** What the constructor takes for CAP 5, CAP 64, BIG 100, BIG 32767 and BIG 32768. */
    private static final int CAP_5 = 4;
    private static final int CAP_64 = 63;
    private static final int BIG_100 = 98;
    private static final int BIG_32767 = 32765;
    private static final int BIG_32768 = 32766;

    /** No client where CAP is 5, some of them one if only their low bits were looked at. */
    private static final int[] NO_CLIENTS = {
        -1, 5, 6, 63, 64, -5, -64, 256, 65536, -65536, MOST_INT, LEAST_INT, LEAST_INT + 1};
    /** No tickets where BIG is 100, some of them good if only their low bits were looked at. */
    private static final int[] NO_TICKETS = {
        0, -1, -10, 100, 101, 256 + 10, 65536 + 10, -65536 + 10, MOST_INT, LEAST_INT, LEAST_INT + 10};
    private static final int[] NO_NUMBERS_OF_TURNS = {
        0, -1, 1001, 1002, 65536 + 1, -65536 + 1, MOST_INT, LEAST_INT, LEAST_INT + 1};

    private static final Due due = new Due("BoundariesTest");

    public static void main(String[] args) {
        ofTheTerms();
        ofNewObjects();
        ofJoin();
        ofLeave();
        ofNext();
        ofTurns();
        ofChange();
        ofWhatOneClientTells();
        ofClients();
        ofSpread();
        ofOrder();
        ofTheNumberOfCalls();
        due.end();
    }

    // What the tests share

    /** Of clients 0 .. 4 with BIG 100: 1, 3 and 0 are in, by pass 8, 10 and 20; 4 left at 0. */
    private static StrideHeap threeIn() {
        StrideHeap x = new StrideHeap(CAP_5, BIG_100);
        x.join(0, 5);
        x.join(1, 25);
        x.join(3, 10);
        x.join(4, 99);
        x.turns(3);
        x.leave(4);
        due.is("three in: client 1 has one turn more", x.next(), 1);
        due.order("three in", x, 1, 3, 0);
        return x;
    }

    /** Client 0 of two, with BIG 32768 and 1 ticket: one stride more would be 2147483648. */
    private static StrideHeap oneStrideTooFar() {
        StrideHeap x = new StrideHeap(1, BIG_32768);
        x.join(0, 1);
        manyTurns(x, 65535);
        due.is("one stride too far: its pass", x.passOf(0), 2147450880);
        return x;
    }

    /** Client 0 of two, with BIG 32767: a stride of 1 goes, one of 2 does not. */
    private static StrideHeap oneBelowTheGreatest() {
        StrideHeap x = new StrideHeap(1, BIG_32767);
        x.join(0, 1);
        manyTurns(x, 65538);
        due.is("one below the greatest: its pass", x.passOf(0), GREATEST_PASS - 1);
        return x;
    }

    private static StrideHeap atTheGreatest() {
        StrideHeap x = oneBelowTheGreatest();
        x.change(0, 32766);
        due.is("at the greatest: a stride of 1 goes", x.next(), 0);
        return x;
    }

    private static void manyTurns(StrideHeap x, int many) {
        for (int left = many; left > 0; left -= 1000) {
            int now = Math.min(left, 1000);
            due.is("turns(" + now + ") on the way", x.turns(now), now);
        }
    }

    /** All that an object with CAP 5 or less tells, to compare two moments of it. */
    private static String told(StrideHeap x) {
        StringBuilder text = new StringBuilder();
        text.append(x.clients()).append(" in, spread ").append(x.spread());
        for (int i = 0; i < 5; i++) {
            text.append("; ").append(x.order(i)).append(", ").append(x.ranOf(i));
            text.append(", ").append(x.passOf(i)).append(", ").append(x.strideOf(i));
        }
        return text.toString();
    }

    private static void nothingIsDone(String by, StrideHeap x, String before) {
        String after = told(x);
        due.holds(by + " does nothing: from " + before + " to " + after, after.equals(before));
    }

    // The terms

    private static void ofTheTerms() {
        clientsAreFrom0ToCapLess1();
        theOnlyClientIs0();
        ticketsAreFrom1ToBigLess1();
        theLeastBigLeavesOneTicket();
        theRestIsLeftOff();
        beforeTheFirstJoiningTheCountIs0();
        theCountIsKeptWhenItLeaves();
        theFirstHasTheLeastPass();
        theFirstOfEqualsIsTheLeast();
    }

    /** "CLIENTS are 0 .. CAP - 1" */
    private static void clientsAreFrom0ToCapLess1() {
        StrideHeap x = new StrideHeap(CAP_64, BIG_100);
        due.is("clients: join(0)", x.join(0, 1), 1);
        due.is("clients: join(63)", x.join(63, 1), 1);
        due.is("clients: join(-1)", x.join(-1, 1), -1);
        due.is("clients: join(64)", x.join(64, 1), -1);
    }

    private static void theOnlyClientIs0() {
        StrideHeap x = new StrideHeap(0, BIG_100);
        due.is("only client: join(1)", x.join(1, 1), -1);
        due.is("only client: join(0)", x.join(0, 50), 1);
        due.is("only client: turns", x.turns(1000), 1000);
        due.is("only client: its pass", x.passOf(0), 2000);
        due.is("only client: leave", x.leave(0), 1);
        due.is("only client: clients", x.clients(), 0);
    }

    /** "TICKETS, 1 .. BIG - 1" */
    private static void ticketsAreFrom1ToBigLess1() {
        StrideHeap x = new StrideHeap(CAP_5, BIG_32768);
        due.is("tickets: 0", x.join(0, 0), -3);
        due.is("tickets: BIG", x.join(0, 32768), -3);
        due.is("tickets: 1", x.join(0, 1), 1);
        due.is("tickets: BIG - 1", x.join(1, 32767), 1);
        due.is("tickets: they were 1", x.change(0, 32767), 1);
        due.is("tickets: they were BIG - 1", x.change(1, 1), 32767);
    }

    private static void theLeastBigLeavesOneTicket() {
        StrideHeap x = new StrideHeap(CAP_5, 0);
        due.is("BIG 2: tickets 2", x.join(0, 2), -3);
        due.is("BIG 2: tickets 0", x.join(0, 0), -3);
        due.is("BIG 2: tickets 1", x.join(0, 1), 1);
        due.is("BIG 2: stride", x.strideOf(0), 2);
        due.is("BIG 2: change to 2", x.change(0, 2), -3);
        due.is("BIG 2: change to 1", x.change(0, 1), 1);
    }

    /** "BIG divided by its tickets (the rest left off)" */
    private static void theRestIsLeftOff() {
        strideIs(BIG_100, 49, 2);
        strideIs(BIG_100, 50, 2);
        strideIs(BIG_100, 51, 1);
        strideIs(BIG_100, 99, 1);
        strideIs(BIG_32768, 1, 32768);
        strideIs(BIG_32768, 3, 10922);
        strideIs(BIG_32768, 16384, 2);
        strideIs(BIG_32768, 16385, 1);
        strideIs(BIG_32768, 32767, 1);
    }

    private static void strideIs(int big, int tickets, int stride) {
        String when = "rest: big " + big + ", tickets " + tickets;
        StrideHeap x = new StrideHeap(CAP_5, big);
        x.join(0, tickets);
        due.is(when + ", join", x.strideOf(0), stride);
        x.join(1, 1);
        x.change(1, tickets);
        due.is(when + ", change", x.strideOf(1), stride);
        due.is(when + ", next", x.next(), 0);
        due.is(when + ", pass", x.passOf(0), stride);
    }

    /** "Before a client's first joining its count of turns is 0" */
    private static void beforeTheFirstJoiningTheCountIs0() {
        StrideHeap x = threeIn();
        due.is("count: never in", x.ranOf(2), 0);
        x.join(2, 1);
        due.is("count: just in", x.ranOf(2), 0);
    }

    /** "it keeps its count when it leaves" */
    private static void theCountIsKeptWhenItLeaves() {
        StrideHeap x = threeIn();
        due.is("count: in", x.ranOf(0), 1);
        x.leave(0);
        due.is("count: left", x.ranOf(0), 1);
        x.turns(10);
        due.is("count: left, others went on", x.ranOf(0), 1);
        x.join(0, 1);
        due.is("count: back", x.ranOf(0), 1);
        due.is("count: back, and first", x.next(), 0);
        due.is("count: goes on", x.ranOf(0), 2);
    }

    /** "THE FIRST client is [...] the one with the least pass" */
    private static void theFirstHasTheLeastPass() {
        StrideHeap x = threeIn();
        due.is("first: the least pass, not the least one", x.next(), 1);
        due.is("first: by one stride only", x.passOf(1), 12);
        due.is("first: the greatest one has the least pass", x.next(), 3);
    }

    /** "of these the least one" */
    private static void theFirstOfEqualsIsTheLeast() {
        StrideHeap x = new StrideHeap(CAP_64, BIG_100);
        for (int client = 63; client >= 0; client--) {
            x.join(client, 50);
        }
        for (int turn = 0; turn < 128; turn++) {
            due.is("first of equals: turn " + turn, x.next(), turn % 64);
        }
    }

    // Promise 1

    private static void ofNewObjects() {
        capWrapsAround();
        bigWrapsAround();
        inANewObjectNobodyIsIn();
        objectsShareNothing();
    }

    /** "CAP is 1 more than cap modulo 64 (0 .. 63)" */
    private static void capWrapsAround() {
        capIs(0, 1);
        capIs(1, 2);
        capIs(62, 63);
        capIs(63, 64);
        capIs(64, 1);
        capIs(65, 2);
        capIs(127, 64);
        capIs(128, 1);
        capIs(-1, 64);
        capIs(-2, 63);
        capIs(-63, 2);
        capIs(-64, 1);
        capIs(-65, 64);
        capIs(MOST_INT, 64);
        capIs(MOST_INT - 63, 1);
        capIs(LEAST_INT, 1);
        capIs(LEAST_INT + 1, 2);
    }

    private static void capIs(int cap, int clients) {
        StrideHeap x = new StrideHeap(cap, BIG_100);
        due.is("cap " + cap + ": one beyond joins", x.join(clients, 1), -1);
        due.is("cap " + cap + ": ranOf one beyond", x.ranOf(clients), -1);
        for (int client = clients - 1; client >= 0; client--) {
            due.is("cap " + cap + ": " + client + " joins", x.join(client, 1), 1);
        }
        due.is("cap " + cap + ": all are in", x.clients(), clients);
    }

    /** "BIG 2 more than big modulo 32767" */
    private static void bigWrapsAround() {
        bigIs(0, 2);
        bigIs(1, 3);
        bigIs(32765, 32767);
        bigIs(32766, 32768);
        bigIs(32767, 2);
        bigIs(32768, 3);
        bigIs(65533, 32768);
        bigIs(65534, 2);
        bigIs(-1, 32768);
        bigIs(-2, 32767);
        bigIs(-32766, 3);
        bigIs(-32767, 2);
        bigIs(-32768, 32768);
        bigIs(MOST_INT, 3);
        bigIs(MOST_INT - 1, 2);
        bigIs(MOST_INT - 2, 32768);
        bigIs(LEAST_INT, 32767);
        bigIs(LEAST_INT + 1, 32768);
        bigIs(LEAST_INT + 2, 2);
    }

    private static void bigIs(int big, int want) {
        StrideHeap x = new StrideHeap(1, big);
        due.is("big " + big + ": join with BIG", x.join(0, want), -3);
        due.is("big " + big + ": join with BIG - 1", x.join(0, want - 1), 1);
        due.is("big " + big + ": join with 1", x.join(1, 1), 1);
        due.is("big " + big + ": stride of 1 ticket", x.strideOf(1), want);
        due.is("big " + big + ": stride of BIG - 1", x.strideOf(0), want == 2 ? 2 : 1);
    }

    /** "nobody is in" */
    private static void inANewObjectNobodyIsIn() {
        StrideHeap x = new StrideHeap(CAP_64, BIG_100);
        due.is("new: clients", x.clients(), 0);
        due.is("new: spread", x.spread(), -1);
        due.is("new: next", x.next(), -1);
        due.is("new: turns", x.turns(1), 0);
        for (int i = 0; i < 64; i++) {
            due.is("new: order(" + i + ")", x.order(i), -1);
            due.is("new: passOf(" + i + ")", x.passOf(i), -1);
            due.is("new: strideOf(" + i + ")", x.strideOf(i), -1);
            due.is("new: ranOf(" + i + ")", x.ranOf(i), 0);
            due.is("new: leave(" + i + ")", x.leave(i), -2);
            due.is("new: change(" + i + ")", x.change(i, 1), -2);
        }
    }

    private static void objectsShareNothing() {
        StrideHeap one = threeIn();
        String before = told(one);
        StrideHeap other = threeIn();
        other.turns(1000);
        other.leave(0);
        other.join(2, 7);
        nothingIsDone("what another object does", one, before);
    }

    // Promise 2

    private static void ofJoin() {
        joinTakesTheFirstOnesPass();
        joinInAnEmptyHouseTakesTheLatestLeftPass();
        joinTakes0IfNobodyLeft();
        joinRefusesWhatIsNoClient();
        joinRefusesOneThatIsIn();
        joinRefusesOtherTickets();
        joinLooksAtTheClientFirst();
        joinRefusesAllInAFullHouse();
        joinAtTheGreatestPass();
    }

    /** "with the first client's pass" */
    private static void joinTakesTheFirstOnesPass() {
        StrideHeap x = threeIn();
        due.is("join: between others", x.join(2, 1), 1);
        due.is("join: the first one's pass, not the latest left", x.passOf(2), 8);
        due.order("join: behind an equal lesser one", x, 1, 2, 3, 0);
        x.leave(1);
        x.leave(2);
        x.leave(3);
        x.join(1, 1);
        due.is("join: the only one's pass", x.passOf(1), 20);
        due.order("join: behind the only one", x, 0, 1);
        x = threeIn();
        x.leave(0);
        x.join(0, 1);
        due.is("join: the latest left further, at 20", x.passOf(0), 8);
    }

    /** "when nobody is in, with the pass with which the latest one left" */
    private static void joinInAnEmptyHouseTakesTheLatestLeftPass() {
        StrideHeap x = threeIn();
        x.leave(0);
        x.leave(3);
        x.leave(1);
        x.join(4, 10);
        due.is("join: the latest left at 8, those before it further", x.passOf(4), 8);
        x.next();
        x.leave(4);
        x.join(0, 1);
        due.is("join: not its own old pass", x.passOf(0), 18);
        x.leave(0);
        x.join(0, 1);
        due.is("join: left without a turn", x.passOf(0), 18);
    }

    /** "(0, if there was none)" */
    private static void joinTakes0IfNobodyLeft() {
        StrideHeap x = new StrideHeap(CAP_5, BIG_100);
        x.leave(4);
        x.leave(5);
        x.next();
        x.turns(1000);
        due.is("join: the first of all", x.join(4, 1), 1);
        due.is("join: its pass", x.passOf(4), 0);
        due.is("join: the second", x.join(0, 1), 1);
        due.is("join: its pass too", x.passOf(0), 0);
    }

    /** "-1 when it is no client" */
    private static void joinRefusesWhatIsNoClient() {
        StrideHeap x = threeIn();
        String before = told(x);
        for (int client : NO_CLIENTS) {
            due.is("join(" + client + ", 10)", x.join(client, 10), -1);
        }
        nothingIsDone("join of no client", x, before);
    }

    /** "-2 when it is in" */
    private static void joinRefusesOneThatIsIn() {
        StrideHeap x = threeIn();
        String before = told(x);
        due.is("join of the first", x.join(1, 10), -2);
        due.is("join of one between", x.join(3, 99), -2);
        due.is("join of the last", x.join(0, 1), -2);
        nothingIsDone("join of one that is in", x, before);
        due.is("join: the tickets stay", x.change(0, 5), 5);
        x.leave(1);
        due.is("join of one that has left", x.join(1, 10), 1);
        due.is("join of one that is back", x.join(1, 10), -2);
    }

    /** "-3 for other tickets" */
    private static void joinRefusesOtherTickets() {
        StrideHeap x = threeIn();
        String before = told(x);
        for (int tickets : NO_TICKETS) {
            due.is("join(2, " + tickets + "), never in", x.join(2, tickets), -3);
            due.is("join(4, " + tickets + "), left", x.join(4, tickets), -3);
        }
        nothingIsDone("join with other tickets", x, before);
        due.is("join: with 1", x.join(2, 1), 1);
        due.is("join: with BIG - 1", x.join(4, 99), 1);
    }

    private static void joinLooksAtTheClientFirst() {
        StrideHeap x = threeIn();
        due.is("join: no client and no tickets", x.join(5, 0), -1);
        due.is("join: no client and too many tickets", x.join(-1, 100), -1);
        due.is("join: in and no tickets", x.join(0, 0), -2);
        due.is("join: in and too many tickets", x.join(0, 100), -2);
    }

    private static void joinRefusesAllInAFullHouse() {
        StrideHeap x = fullHouse();
        for (int client = 0; client < 64; client++) {
            due.is("full: join(" + client + ")", x.join(client, 1), -2);
        }
        due.is("full: join(64)", x.join(64, 1), -1);
        due.is("full: clients", x.clients(), 64);
        due.is("full: order(63)", x.order(63), 63);
        due.is("full: one leaves", x.leave(31), 1);
        due.is("full: and comes back", x.join(31, 1), 1);
        due.is("full: order(31)", x.order(31), 31);
    }

    /** CAP 64, all of them in with stride 2 and pass 0. */
    private static StrideHeap fullHouse() {
        StrideHeap x = new StrideHeap(CAP_64, BIG_100);
        for (int client = 0; client < 64; client++) {
            x.join(client, 50);
        }
        return x;
    }

    private static void joinAtTheGreatestPass() {
        StrideHeap x = atTheGreatest();
        due.is("greatest: another joins", x.join(1, 5), 1);
        due.is("greatest: at that pass", x.passOf(1), GREATEST_PASS);
        x.leave(0);
        x.leave(1);
        due.is("greatest: joins an empty house", x.join(0, 32766), 1);
        due.is("greatest: at that pass too", x.passOf(0), GREATEST_PASS);
        due.is("greatest: no turn goes", x.next(), -2);
    }

    // Promise 3

    private static void ofLeave() {
        leaveTakesOutAnyPlace();
        leaveEmptiesTheHouse();
        leaveRefusesWhatIsNoClient();
        leaveRefusesOneThatIsNotIn();
        aRefusedLeaveIsNotTheLatest();
    }

    /** "A client leaves: 1." */
    private static void leaveTakesOutAnyPlace() {
        StrideHeap x = threeIn();
        due.is("leave: between", x.leave(3), 1);
        due.order("leave: between", x, 1, 0);
        x = threeIn();
        due.is("leave: the first", x.leave(1), 1);
        due.order("leave: the first", x, 3, 0);
        x = threeIn();
        due.is("leave: the last", x.leave(0), 1);
        due.order("leave: the last", x, 1, 3);
    }

    private static void leaveEmptiesTheHouse() {
        StrideHeap x = fullHouse();
        for (int client = 63; client >= 0; client--) {
            due.is("leave: out of a full house", x.leave(client), 1);
            due.is("leave: so many stay", x.clients(), client);
            due.is("leave: no more places", x.order(client), -1);
        }
        due.is("leave: next finds nobody", x.next(), -1);
        due.is("leave: out of an empty house", x.leave(0), -2);
    }

    /** "-1" (when it is no client) */
    private static void leaveRefusesWhatIsNoClient() {
        StrideHeap x = threeIn();
        String before = told(x);
        for (int client : NO_CLIENTS) {
            due.is("leave(" + client + ")", x.leave(client), -1);
        }
        nothingIsDone("leave of no client", x, before);
    }

    /** "-2 when it is not in" */
    private static void leaveRefusesOneThatIsNotIn() {
        StrideHeap x = threeIn();
        String before = told(x);
        due.is("leave: never in", x.leave(2), -2);
        due.is("leave: left before", x.leave(4), -2);
        nothingIsDone("leave of one that is not in", x, before);
        due.is("leave: in", x.leave(0), 1);
        due.is("leave: twice", x.leave(0), -2);
    }

    private static void aRefusedLeaveIsNotTheLatest() {
        StrideHeap x = threeIn();
        x.leave(1);
        x.leave(3);
        x.leave(0);
        due.is("leave: refused, it left at 8", x.leave(1), -2);
        due.is("leave: refused, never in", x.leave(2), -2);
        due.is("leave: refused, no client", x.leave(5), -1);
        x.join(2, 1);
        due.is("leave: the latest left at 20", x.passOf(2), 20);
    }

    // Promise 4

    private static void ofNext() {
        nextRefusesWhenNobodyIsIn();
        nextReachesTheGreatestPass();
        nextRefusesAGreaterPass();
        nextRefusesAFarGreaterPass();
        nextAsksTheFirstAlone();
    }

    /** "-1 when nobody is in" */
    private static void nextRefusesWhenNobodyIsIn() {
        StrideHeap x = threeIn();
        x.leave(1);
        x.leave(0);
        due.is("next: one is in", x.next(), 3);
        x.leave(3);
        String before = told(x);
        due.is("next: all have left", x.next(), -1);
        nothingIsDone("next with nobody in", x, before);
        x.join(4, 1);
        due.is("next: the latest left pass stays", x.passOf(4), 20);
        due.is("next: one is in again", x.next(), 4);
    }

    private static void nextReachesTheGreatestPass() {
        StrideHeap x = atTheGreatest();
        due.is("next: the greatest pass", x.passOf(0), GREATEST_PASS);
        due.is("next: the turn was counted", x.ranOf(0), 65539);
    }

    /** "-2 when the pass would be above 2147483647 (nothing is done)" */
    private static void nextRefusesAGreaterPass() {
        StrideHeap x = oneBelowTheGreatest();
        x.change(0, 16383);
        due.is("next: stride", x.strideOf(0), 2);
        String before = told(x);
        due.is("next: would be 2147483648", x.next(), -2);
        due.is("next: would be still", x.next(), -2);
        nothingIsDone("next that is too far", x, before);
        x = atTheGreatest();
        before = told(x);
        due.is("next: would be 2147483648 by a stride of 1", x.next(), -2);
        nothingIsDone("next from the greatest pass", x, before);
    }

    private static void nextRefusesAFarGreaterPass() {
        StrideHeap x = atTheGreatest();
        x.change(0, 1);
        String before = told(x);
        due.is("next: would be 2147516414", x.next(), -2);
        nothingIsDone("next that is far too far", x, before);
        x = oneStrideTooFar();
        due.is("next: would be 2147483648 by the greatest stride", x.next(), -2);
        due.is("next: the pass stays", x.passOf(0), 2147450880);
        due.is("next: the count stays", x.ranOf(0), 65535);
    }

    private static void nextAsksTheFirstAlone() {
        StrideHeap x = oneStrideTooFar();
        x.join(1, 32767);
        due.is("next: 0 can't go, 1 could but is not first", x.next(), -2);
        due.is("next: 1 had no turn", x.ranOf(1), 0);
        x.leave(0);
        due.is("next: 1 is first now", x.next(), 1);
        due.is("next: and went", x.passOf(1), 2147450881);
    }

    // Promise 5

    private static void ofTurns() {
        turnsTakesFrom1To1000();
        turnsRefusesAnotherNumber();
        turnsInAnEmptyHouse();
        turnsStopsWhereNoneGoes();
        turnsStopsWhereTheFirstCannotGo();
    }

    /** "so many times (1 .. 1000)" */
    private static void turnsTakesFrom1To1000() {
        StrideHeap x = threeIn();
        due.is("turns: 1", x.turns(1), 1);
        due.is("turns: it went to the first", x.ranOf(1), 3);
        due.is("turns: one stride", x.passOf(1), 12);
        due.is("turns: 1000", x.turns(1000), 1000);
        due.is("turns: all of them were counted", x.ranOf(0) + x.ranOf(1) + x.ranOf(3), 1005);
        due.is("turns: 999", x.turns(999), 999);
        due.is("turns: those too", x.ranOf(0) + x.ranOf(1) + x.ranOf(3), 2004);
    }

    /** "-1 for another number" */
    private static void turnsRefusesAnotherNumber() {
        StrideHeap x = threeIn();
        StrideHeap empty = new StrideHeap(CAP_5, BIG_100);
        StrideHeap tooFar = oneStrideTooFar();
        String before = told(x);
        for (int many : NO_NUMBERS_OF_TURNS) {
            due.is("turns(" + many + ")", x.turns(many), -1);
            due.is("turns(" + many + ") with nobody in", empty.turns(many), -1);
            due.is("turns(" + many + ") where none goes", tooFar.turns(many), -1);
        }
        nothingIsDone("turns of another number", x, before);
    }

    private static void turnsInAnEmptyHouse() {
        StrideHeap x = new StrideHeap(CAP_5, BIG_100);
        due.is("turns: 1, nobody in", x.turns(1), 0);
        due.is("turns: 1000, nobody in", x.turns(1000), 0);
        x.join(0, 1);
        x.leave(0);
        due.is("turns: 1, all have left", x.turns(1), 0);
        due.is("turns: nobody had one", x.ranOf(0), 0);
    }

    /** "as long as it goes: how many did" */
    private static void turnsStopsWhereNoneGoes() {
        StrideHeap x = oneStrideTooFar();
        due.is("turns: none goes", x.turns(1), 0);
        due.is("turns: none of 1000 goes", x.turns(1000), 0);
        x.change(0, 33);
        due.is("turns: 33 strides of 992 go", x.turns(1000), 33);
        due.is("turns: so far", x.passOf(0), 2147483616);
        due.is("turns: so many", x.ranOf(0), 65568);
        x.change(0, 32767);
        due.is("turns: as many as still go", x.turns(31), 31);
        due.is("turns: to the greatest pass", x.passOf(0), GREATEST_PASS);
        due.is("turns: no more", x.turns(1), 0);
    }

    private static void turnsStopsWhereTheFirstCannotGo() {
        StrideHeap x = oneStrideTooFar();
        x.change(0, 2);
        x.join(1, 4);
        due.is("turns: 0, 1 and 1 go", x.turns(1000), 3);
        due.is("turns: 0 had one", x.ranOf(0), 65536);
        due.is("turns: 1 had two", x.ranOf(1), 2);
        due.is("turns: they are equally far", x.spread(), 0);
        due.is("turns: none goes while 0 is first", x.turns(1), 0);
        x.leave(0);
        due.is("turns: 1 goes once more", x.turns(1000), 1);
    }

    // Promise 6

    private static void ofChange() {
        changeCountsFromTheNextTurnOn();
        changeLeavesThePass();
        changeTellsTheOldTickets();
        changeRefusesWhatIsNoClient();
        changeRefusesOneThatIsNotIn();
        changeRefusesOtherTickets();
        changeLooksAtTheClientFirst();
        changeLetsOneGoOnAtTheEnd();
    }

    /** "from its next turn on" */
    private static void changeCountsFromTheNextTurnOn() {
        StrideHeap x = threeIn();
        x.change(1, 1);
        due.is("change: the next turn", x.next(), 1);
        due.is("change: by the new stride", x.passOf(1), 108);
        x.change(3, 99);
        x.change(3, 20);
        due.is("change: twice before a turn", x.next(), 3);
        due.is("change: by the newest stride", x.passOf(3), 15);
    }

    /** "(its pass stays)" */
    private static void changeLeavesThePass() {
        StrideHeap x = threeIn();
        x.change(0, 99);
        x.change(1, 1);
        due.is("change: pass of 0", x.passOf(0), 20);
        due.is("change: pass of 1", x.passOf(1), 8);
        due.is("change: count of 1", x.ranOf(1), 2);
        due.order("change: the order stays", x, 1, 3, 0);
    }

    /** "the old ones" */
    private static void changeTellsTheOldTickets() {
        StrideHeap x = threeIn();
        due.is("change: of the joining", x.change(0, 99), 5);
        due.is("change: the greatest", x.change(0, 1), 99);
        due.is("change: the least", x.change(0, 51), 1);
        due.is("change: of equal strides", x.change(0, 52), 51);
        due.is("change: to the same", x.change(0, 52), 52);
        x.leave(0);
        x.join(0, 7);
        due.is("change: of the latest joining", x.change(0, 8), 7);
    }

    /** "-1" */
    private static void changeRefusesWhatIsNoClient() {
        StrideHeap x = threeIn();
        String before = told(x);
        for (int client : NO_CLIENTS) {
            due.is("change(" + client + ", 10)", x.change(client, 10), -1);
        }
        nothingIsDone("change of no client", x, before);
    }

    /** "-2" */
    private static void changeRefusesOneThatIsNotIn() {
        StrideHeap x = threeIn();
        String before = told(x);
        due.is("change: never in", x.change(2, 10), -2);
        due.is("change: left", x.change(4, 10), -2);
        nothingIsDone("change of one that is not in", x, before);
        due.is("change: it is still not in", x.leave(4), -2);
    }

    /** "-3" */
    private static void changeRefusesOtherTickets() {
        StrideHeap x = threeIn();
        String before = told(x);
        for (int tickets : NO_TICKETS) {
            due.is("change(0, " + tickets + ")", x.change(0, tickets), -3);
        }
        nothingIsDone("change to other tickets", x, before);
        due.is("change: the tickets stayed", x.change(0, 99), 5);
    }

    private static void changeLooksAtTheClientFirst() {
        StrideHeap x = threeIn();
        due.is("change: no client and no tickets", x.change(5, 0), -1);
        due.is("change: no client and too many tickets", x.change(-1, 100), -1);
        due.is("change: not in and no tickets", x.change(2, 0), -2);
        due.is("change: left and too many tickets", x.change(4, 100), -2);
    }

    private static void changeLetsOneGoOnAtTheEnd() {
        StrideHeap x = oneStrideTooFar();
        due.is("change: none goes", x.next(), -2);
        due.is("change: to a stride that goes", x.change(0, 2), 1);
        due.is("change: it goes", x.next(), 0);
        due.is("change: so far", x.passOf(0), 2147467264);
        due.is("change: back", x.change(0, 1), 2);
        due.is("change: none goes again", x.next(), -2);
    }

    // Promises 7, 8 and 9

    private static void ofWhatOneClientTells() {
        whatIsNoClientTellsNothing();
        oneThatIsNotInTellsItsCountAlone();
        theMostTurnsOfOneClient();
        thePassOf0AndTheGreatest();
        theGreatestAndTheLeastStride();
    }

    /** "-1" of ranOf; "-1 when it is [...] no client" of passOf and strideOf */
    private static void whatIsNoClientTellsNothing() {
        StrideHeap x = threeIn();
        for (int client : NO_CLIENTS) {
            due.is("ranOf(" + client + ")", x.ranOf(client), -1);
            due.is("passOf(" + client + ")", x.passOf(client), -1);
            due.is("strideOf(" + client + ")", x.strideOf(client), -1);
        }
    }

    /** "How many turns a client had in all"; "-1 when it is not in" of passOf and strideOf */
    private static void oneThatIsNotInTellsItsCountAlone() {
        StrideHeap x = threeIn();
        due.is("never in: ranOf", x.ranOf(2), 0);
        due.is("never in: passOf", x.passOf(2), -1);
        due.is("never in: strideOf", x.strideOf(2), -1);
        x.leave(1);
        due.is("left: ranOf", x.ranOf(1), 2);
        due.is("left: passOf", x.passOf(1), -1);
        due.is("left: strideOf", x.strideOf(1), -1);
    }

    private static void theMostTurnsOfOneClient() {
        StrideHeap x = new StrideHeap(CAP_5, BIG_100);
        x.join(4, 99);
        for (int call = 1; call < 510; call++) {
            x.turns(1000);
        }
        due.is("most turns: ranOf", x.ranOf(4), 509000);
        due.is("most turns: passOf", x.passOf(4), 509000);
    }

    private static void thePassOf0AndTheGreatest() {
        StrideHeap x = new StrideHeap(0, BIG_100);
        x.join(0, 1);
        due.is("passOf: 0 is a pass", x.passOf(0), 0);
        due.is("passOf: the greatest", atTheGreatest().passOf(0), GREATEST_PASS);
    }

    private static void theGreatestAndTheLeastStride() {
        StrideHeap x = new StrideHeap(CAP_5, BIG_32768);
        x.join(0, 1);
        x.join(1, 32767);
        due.is("strideOf: the greatest", x.strideOf(0), 32768);
        due.is("strideOf: the least", x.strideOf(1), 1);
        x.leave(0);
        x.join(0, 32767);
        due.is("strideOf: of the latest joining", x.strideOf(0), 1);
    }

    // Promise 10

    private static void ofClients() {
        clientsOfAnEmptyAndAFullHouse();
        clientsCountsNoRefusal();
    }

    /** "How many are in." */
    private static void clientsOfAnEmptyAndAFullHouse() {
        StrideHeap x = new StrideHeap(CAP_64, BIG_100);
        due.is("clients: nobody", x.clients(), 0);
        for (int client = 63; client >= 0; client--) {
            x.join(client, 1 + client);
            due.is("clients: joining", x.clients(), 64 - client);
        }
        x.turns(1000);
        due.is("clients: after turns", x.clients(), 64);
        for (int client = 0; client < 64; client++) {
            x.leave(client);
            due.is("clients: leaving", x.clients(), 63 - client);
        }
    }

    private static void clientsCountsNoRefusal() {
        StrideHeap x = threeIn();
        x.join(0, 1);
        x.join(5, 1);
        x.join(2, 0);
        x.leave(2);
        x.leave(-1);
        x.change(2, 1);
        due.is("clients: after refusals", x.clients(), 3);
    }

    // Promise 11

    private static void ofSpread() {
        spreadOfNobody();
        spreadOfOneAndOfEquals();
        spreadOfAWholeBig();
        spreadAtTheGreatestPass();
    }

    /** "-1 when nobody is in" */
    private static void spreadOfNobody() {
        StrideHeap x = new StrideHeap(CAP_5, BIG_100);
        due.is("spread: new", x.spread(), -1);
        x.join(0, 1);
        x.next();
        x.leave(0);
        due.is("spread: all have left", x.spread(), -1);
    }

    private static void spreadOfOneAndOfEquals() {
        StrideHeap x = threeIn();
        due.is("spread: the last less the first", x.spread(), 12);
        x.leave(1);
        due.is("spread: the first left", x.spread(), 10);
        x.leave(3);
        due.is("spread: one", x.spread(), 0);
        x.join(1, 1);
        due.is("spread: equals", x.spread(), 0);
    }

    /** "By how much the greatest pass of those that are in is above the least one" */
    private static void spreadOfAWholeBig() {
        StrideHeap x = new StrideHeap(CAP_5, BIG_32768);
        x.join(0, 1);
        x.join(1, 1);
        x.next();
        due.is("spread: a whole stride", x.spread(), 32768);
        x.next();
        due.is("spread: none again", x.spread(), 0);
    }

    private static void spreadAtTheGreatestPass() {
        StrideHeap x = oneBelowTheGreatest();
        x.change(0, 32766);
        x.join(1, 32766);
        due.is("spread: 0 goes to the greatest", x.next(), 0);
        due.is("spread: 1 is one below", x.spread(), 1);
        due.is("spread: 1 goes too", x.next(), 1);
        due.is("spread: both at the greatest", x.spread(), 0);
        due.is("spread: none goes", x.next(), -2);
    }

    // Promise 12

    private static void ofOrder() {
        orderIsFrom0();
        orderPutsEqualsByNumber();
        orderTellsWhenThereIsNoneSuch();
        orderOfAFullHouse();
    }

    /** "Client k (from 0) of those that are in, by pass" */
    private static void orderIsFrom0() {
        StrideHeap x = threeIn();
        due.is("order: the first", x.order(0), 1);
        due.is("order: the last", x.order(2), 0);
        x.turns(3);
        due.order("order: after turns", x, 1, 0, 3);
    }

    /** "then number" */
    private static void orderPutsEqualsByNumber() {
        StrideHeap x = new StrideHeap(CAP_5, BIG_100);
        x.join(2, 10);
        x.join(4, 10);
        x.join(0, 10);
        x.join(3, 10);
        x.join(1, 10);
        due.order("order: equals", x, 0, 1, 2, 3, 4);
        x.turns(3);
        due.order("order: three went on", x, 3, 4, 0, 1, 2);
        x.turns(2);
        due.order("order: all went on", x, 0, 1, 2, 3, 4);
    }

    /** "-1 when there is none such" */
    private static void orderTellsWhenThereIsNoneSuch() {
        StrideHeap x = threeIn();
        int[] none = {-1, 3, 4, 5, 64, 65536, -65536, MOST_INT, LEAST_INT, LEAST_INT + 1};
        for (int k : none) {
            due.is("order(" + k + ")", x.order(k), -1);
        }
        x.leave(0);
        due.is("order: the last place is gone", x.order(2), -1);
        x.leave(1);
        x.leave(3);
        due.is("order: nobody is in", x.order(0), -1);
    }

    private static void orderOfAFullHouse() {
        StrideHeap x = fullHouse();
        x.next();
        due.is("order: full, first", x.order(0), 1);
        due.is("order: full, last", x.order(63), 0);
        due.is("order: full, one beyond", x.order(64), -1);
    }

    // What it is

    private static void ofTheNumberOfCalls() {
        the512thCallHolds();
        laterCallsEnd();
    }

    /** "An object is used for at most 512 calls": a full house, where a turn is dearest. */
    private static void the512thCallHolds() {
        StrideHeap x = fullHouse();
        for (int call = 65; call <= 510; call++) {
            due.is("512 calls: turns(1000)", x.turns(1000), 1000);
        }
        due.is("512 calls: ranOf(0)", x.ranOf(0), 6969);
        due.is("512 calls: passOf(63), the last", x.passOf(63), 13936);
    }

    /** What later calls answer is free, but LANGUAGE.md lets no call throw or go on for ever. */
    private static void laterCallsEnd() {
        StrideHeap x = oneStrideTooFar();
        int calls = 0;
        for (int i = 0; i < 600; i++) {
            x.join(i % 2, 1 + i);
            x.change(1 - i % 2, 600 - i);
            x.turns(1000);
            x.next();
            x.order(i);
            x.spread();
            x.leave(i % 3);
            calls += 7;
        }
        due.is("later calls: they came to an end", calls, 4200);
    }
}
