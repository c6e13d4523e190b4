/** Each promise of the document by hand-made runs: ordinary inputs, edges and wrong inputs. */
public final class PromisesTest {
    private static final int LEAST_INT = Integer.MIN_VALUE;
    private static final int MOST_INT = Integer.MAX_VALUE;
    private static final int BIG_100 = 98;
    private static final int BIG_32768 = 32766;
    private static final Due due = new Due("PromisesTest");

    public static void main(String[] args) {
        newObjectHasCap();
        newObjectHasBig();
        newObjectIsEmpty();
        joinTakesTheFirstPass();
        joinTakesTheLatestLeftPass();
        joinRefuses();
        leaveTakesOneOut();
        leaveRefuses();
        nextGoesToTheFirst();
        nextStopsAtTheGreatestPass();
        turnsCountsWhatWent();
        turnsStopsAtTheGreatestPass();
        turnsRefuses();
        changeCountsFromTheNextTurn();
        changeRefuses();
        ranOfKeepsItsCount();
        passOfTellsThePass();
        strideOfLeavesTheRestOff();
        clientsCounts();
        spreadTellsTheDistance();
        orderIsByPassThenNumber();
        aFullHouseOf512Calls();
        due.end();
    }

    // Promise 1

    private static void newObjectHasCap() {
        capIs(0, 1);
        capIs(1, 2);
        capIs(63, 64);
        capIs(64, 1);
        capIs(130, 3);
        capIs(-1, 64);
        capIs(-64, 1);
        capIs(-65, 64);
        capIs(MOST_INT, 64);
        capIs(LEAST_INT, 1);
    }

    private static void capIs(int cap, int clients) {
        StrideHeap x = new StrideHeap(cap, BIG_100);
        due.is("cap " + cap + ", last client joins", x.join(clients - 1, 1), 1);
        due.is("cap " + cap + ", one beyond joins", x.join(clients, 1), -1);
        due.is("cap " + cap + ", ranOf beyond", x.ranOf(clients), -1);
    }

    private static void newObjectHasBig() {
        bigIs(0, 2);
        bigIs(1, 3);
        bigIs(32766, 32768);
        bigIs(32767, 2);
        bigIs(32768, 3);
        bigIs(-1, 32768);
        bigIs(-32767, 2);
        bigIs(-32768, 32768);
        bigIs(MOST_INT, 3);
        bigIs(LEAST_INT, 32767);
    }

    private static void bigIs(int big, int want) {
        StrideHeap x = new StrideHeap(1, big);
        due.is("big " + big + ", join with BIG", x.join(0, want), -3);
        due.is("big " + big + ", join with BIG - 1", x.join(0, want - 1), 1);
        due.is("big " + big + ", join with 1", x.join(1, 1), 1);
        due.is("big " + big + ", stride of 1 ticket", x.strideOf(1), want);
    }

    private static void newObjectIsEmpty() {
        StrideHeap x = new StrideHeap(4, BIG_100);
        due.is("new: clients", x.clients(), 0);
        due.is("new: spread", x.spread(), -1);
        due.is("new: order(0)", x.order(0), -1);
        due.is("new: next", x.next(), -1);
        for (int client = 0; client < 5; client++) {
            due.is("new: passOf", x.passOf(client), -1);
            due.is("new: strideOf", x.strideOf(client), -1);
            due.is("new: ranOf", x.ranOf(client), 0);
            due.is("new: leave", x.leave(client), -2);
        }
    }

    // Promise 2

    private static void joinTakesTheFirstPass() {
        StrideHeap x = new StrideHeap(4, BIG_100);
        due.is("join: first of all", x.join(3, 10), 1);
        due.is("join: starts at 0", x.passOf(3), 0);
        x.turns(3);
        due.is("join: second", x.join(4, 4), 1);
        due.is("join: second's pass", x.passOf(4), 30);
        due.is("join: tie goes to the lesser", x.next(), 3);
        due.is("join: third", x.join(0, 99), 1);
        due.is("join: third takes the least pass", x.passOf(0), 30);
        due.is("join: third goes before an equal greater one", x.order(0), 0);
        due.is("join: the others keep their pass", x.passOf(3), 40);
        due.is("join: clients", x.clients(), 3);
    }

    private static void joinTakesTheLatestLeftPass() {
        StrideHeap x = new StrideHeap(4, BIG_100);
        x.join(0, 10);
        x.join(1, 1);
        x.turns(3);
        due.is("join: pass of 0", x.passOf(0), 20);
        due.is("join: pass of 1", x.passOf(1), 100);
        x.leave(0);
        x.leave(1);
        x.join(2, 5);
        due.is("join: the latest left at 100", x.passOf(2), 100);
        x.join(0, 50);
        due.is("join: its own old pass is forgotten", x.passOf(0), 100);
        x.next();
        x.leave(2);
        x.leave(0);
        x.join(1, 1);
        due.is("join: the latest left at 102", x.passOf(1), 102);
        latestLeftMayBeLessFar();
        leftPassWaitsForAnEmptyHouse();
    }

    private static void latestLeftMayBeLessFar() {
        StrideHeap x = new StrideHeap(4, BIG_100);
        x.join(0, 10);
        x.join(1, 1);
        x.turns(3);
        x.leave(1);
        x.leave(0);
        due.is("join: a refused leave counts for nothing", x.leave(1), -2);
        x.join(3, 5);
        due.is("join: the latest left at 20, one before it at 100", x.passOf(3), 20);
    }

    private static void leftPassWaitsForAnEmptyHouse() {
        StrideHeap x = new StrideHeap(4, BIG_100);
        x.join(0, 1);
        x.join(1, 1);
        x.next();
        x.leave(0);
        x.join(2, 1);
        due.is("join: somebody is in, so its pass counts", x.passOf(2), 0);
    }

    private static void joinRefuses() {
        StrideHeap x = new StrideHeap(4, BIG_100);
        due.is("join: client -1", x.join(-1, 1), -1);
        due.is("join: client 5", x.join(5, 1), -1);
        due.is("join: client least", x.join(LEAST_INT, 1), -1);
        due.is("join: client most", x.join(MOST_INT, 0), -1);
        due.is("join: tickets 0", x.join(0, 0), -3);
        due.is("join: tickets -1", x.join(0, -1), -3);
        due.is("join: tickets BIG", x.join(0, 100), -3);
        due.is("join: tickets most", x.join(0, MOST_INT), -3);
        due.is("join: tickets least", x.join(0, LEAST_INT), -3);
        due.is("join: refusals let nobody in", x.clients(), 0);
        due.is("join: tickets BIG - 1", x.join(0, 99), 1);
        due.is("join: in already", x.join(0, 7), -2);
        due.is("join: in already comes before tickets", x.join(0, 0), -2);
        due.is("join: a refusal keeps the stride", x.strideOf(0), 1);
        due.is("join: a refusal lets no more in", x.clients(), 1);
    }

    // Promise 3

    private static void leaveTakesOneOut() {
        StrideHeap x = new StrideHeap(4, BIG_100);
        for (int client = 0; client < 5; client++) {
            x.join(client, 10);
        }
        due.is("leave: the middle one", x.leave(2), 1);
        due.is("leave: the first one", x.leave(0), 1);
        due.is("leave: the last one", x.leave(4), 1);
        due.is("leave: clients", x.clients(), 2);
        due.is("leave: order(0)", x.order(0), 1);
        due.is("leave: order(1)", x.order(1), 3);
        due.is("leave: order(2)", x.order(2), -1);
        due.is("leave: passOf", x.passOf(2), -1);
        due.is("leave: strideOf", x.strideOf(2), -1);
        due.is("leave: comes back", x.join(2, 10), 1);
        due.is("leave: and leaves again", x.leave(2), 1);
    }

    private static void leaveRefuses() {
        StrideHeap x = new StrideHeap(4, BIG_100);
        x.join(0, 1);
        due.is("leave: client -1", x.leave(-1), -1);
        due.is("leave: client 5", x.leave(5), -1);
        due.is("leave: client least", x.leave(LEAST_INT), -1);
        due.is("leave: client most", x.leave(MOST_INT), -1);
        due.is("leave: never in", x.leave(1), -2);
        due.is("leave: in", x.leave(0), 1);
        due.is("leave: twice", x.leave(0), -2);
        due.is("leave: clients", x.clients(), 0);
    }

    // Promise 4

    private static void nextGoesToTheFirst() {
        StrideHeap x = new StrideHeap(4, BIG_100);
        due.is("next: nobody", x.next(), -1);
        x.join(2, 50);
        x.join(1, 20);
        int[] want = {1, 2, 2, 2, 1, 2, 2, 1, 2};
        for (int i = 0; i < want.length; i++) {
            due.is("next: turn " + i, x.next(), want[i]);
        }
        due.is("next: pass of 1", x.passOf(1), 15);
        due.is("next: pass of 2", x.passOf(2), 12);
        x.leave(1);
        x.leave(2);
        due.is("next: nobody again", x.next(), -1);
    }

    private static void nextStopsAtTheGreatestPass() {
        StrideHeap x = nearTheGreatestPass();
        due.is("next: would be 2147483648", x.next(), -2);
        due.is("next: nothing is done to the pass", x.passOf(0), 2147450880);
        due.is("next: nothing is done to the count", x.ranOf(0), 65535);
        due.is("next: change to stride 1", x.change(0, 32767), 1);
        due.is("next: stride 1 goes", x.turns(1000), 1000);
        x.change(0, 1);
        due.is("next: still too far", x.next(), -2);
        StrideHeap y = nearTheGreatestPass();
        y.leave(0);
        y.join(1, 2);
        due.is("next: stride 16384 goes", y.next(), 1);
        due.is("next: stride 16384 would be 2147483648", y.next(), -2);
        y.change(1, 3);
        due.is("next: stride 10922 goes", y.next(), 1);
        y.change(1, 6);
        due.is("next: stride 5461 goes", y.next(), 1);
        due.is("next: now at", y.passOf(1), 2147483647);
        y.change(1, 32767);
        due.is("next: stride 1 is too far from the greatest", y.next(), -2);
        due.is("next: the greatest pass stays", y.passOf(1), 2147483647);
        y.join(0, 1);
        due.is("next: joins at the greatest pass", y.passOf(0), 2147483647);
        due.is("next: spread there", y.spread(), 0);
    }

    /** One client, 0, at 2147450880: one stride of 32768 below 2147483648. */
    private static StrideHeap nearTheGreatestPass() {
        StrideHeap x = new StrideHeap(1, BIG_32768);
        x.join(0, 1);
        for (int i = 0; i < 65; i++) {
            due.is("near: turns(1000)", x.turns(1000), 1000);
        }
        due.is("near: turns(535)", x.turns(535), 535);
        due.is("near: pass", x.passOf(0), 2147450880);
        return x;
    }

    // Promise 5

    private static void turnsCountsWhatWent() {
        StrideHeap x = new StrideHeap(4, BIG_100);
        due.is("turns: nobody", x.turns(1), 0);
        due.is("turns: nobody, most", x.turns(1000), 0);
        x.join(0, 50);
        x.join(1, 25);
        due.is("turns: 1", x.turns(1), 1);
        due.is("turns: 1 went to 0", x.ranOf(0), 1);
        due.is("turns: 5", x.turns(5), 5);
        due.is("turns: 0 ran", x.ranOf(0), 4);
        due.is("turns: 1 ran", x.ranOf(1), 2);
        due.is("turns: 1000", x.turns(1000), 1000);
        due.is("turns: all ran", x.ranOf(0) + x.ranOf(1), 1006);
    }

    private static void turnsStopsAtTheGreatestPass() {
        StrideHeap x = nearTheGreatestPass();
        due.is("turns: none goes", x.turns(1000), 0);
        x.change(0, 16384);
        due.is("turns: stride 2 goes", x.turns(1000), 1000);
        x.change(0, 3);
        due.is("turns: stride 10922 goes twice", x.turns(1000), 2);
        due.is("turns: it stands at", x.passOf(0), 2147474724);
        due.is("turns: it ran", x.ranOf(0), 66537);
    }

    private static void turnsRefuses() {
        StrideHeap x = new StrideHeap(4, BIG_100);
        due.is("turns: 0, nobody in", x.turns(0), -1);
        x.join(0, 1);
        due.is("turns: 0", x.turns(0), -1);
        due.is("turns: -1", x.turns(-1), -1);
        due.is("turns: 1001", x.turns(1001), -1);
        due.is("turns: least", x.turns(LEAST_INT), -1);
        due.is("turns: most", x.turns(MOST_INT), -1);
        due.is("turns: a refusal gives none", x.ranOf(0), 0);
    }

    // Promise 6

    private static void changeCountsFromTheNextTurn() {
        StrideHeap x = new StrideHeap(4, BIG_100);
        x.join(0, 10);
        x.join(1, 10);
        x.next();
        due.is("change: the old ones", x.change(0, 99), 10);
        due.is("change: the pass stays", x.passOf(0), 10);
        due.is("change: the stride is new", x.strideOf(0), 1);
        due.is("change: the order stays", x.order(0), 1);
        due.is("change: again", x.change(0, 20), 99);
        due.is("change: to the same", x.change(0, 20), 20);
        x.next();
        due.is("change: 0 goes on", x.next(), 0);
        due.is("change: by its new stride", x.passOf(0), 15);
        due.is("change: the other's stride stays", x.strideOf(1), 10);
        due.is("change: the count stays", x.ranOf(0), 2);
    }

    private static void changeRefuses() {
        StrideHeap x = new StrideHeap(4, BIG_100);
        x.join(0, 10);
        due.is("change: client -1", x.change(-1, 5), -1);
        due.is("change: client 5", x.change(5, 5), -1);
        due.is("change: client most comes before tickets", x.change(MOST_INT, 0), -1);
        due.is("change: client least", x.change(LEAST_INT, 5), -1);
        due.is("change: not in", x.change(1, 5), -2);
        due.is("change: not in comes before tickets", x.change(1, 0), -2);
        due.is("change: tickets 0", x.change(0, 0), -3);
        due.is("change: tickets -1", x.change(0, -1), -3);
        due.is("change: tickets BIG", x.change(0, 100), -3);
        due.is("change: tickets most", x.change(0, MOST_INT), -3);
        due.is("change: refusals keep the stride", x.strideOf(0), 10);
        due.is("change: tickets BIG - 1", x.change(0, 99), 10);
        due.is("change: tickets 1", x.change(0, 1), 99);
        x.leave(0);
        due.is("change: left", x.change(0, 5), -2);
    }

    // Promise 7

    private static void ranOfKeepsItsCount() {
        StrideHeap x = new StrideHeap(4, BIG_100);
        x.join(0, 10);
        x.turns(7);
        due.is("ranOf: ran", x.ranOf(0), 7);
        x.leave(0);
        due.is("ranOf: kept when it left", x.ranOf(0), 7);
        x.join(0, 5);
        due.is("ranOf: kept when it joined again", x.ranOf(0), 7);
        x.next();
        due.is("ranOf: goes on", x.ranOf(0), 8);
        due.is("ranOf: never in", x.ranOf(4), 0);
        due.is("ranOf: client 5", x.ranOf(5), -1);
        due.is("ranOf: client -1", x.ranOf(-1), -1);
        due.is("ranOf: client most", x.ranOf(MOST_INT), -1);
        due.is("ranOf: client least", x.ranOf(LEAST_INT), -1);
    }

    // Promise 8

    private static void passOfTellsThePass() {
        StrideHeap x = new StrideHeap(4, BIG_100);
        x.join(0, 7);
        due.is("passOf: at first", x.passOf(0), 0);
        x.turns(3);
        due.is("passOf: three strides", x.passOf(0), 42);
        due.is("passOf: not in", x.passOf(1), -1);
        x.leave(0);
        due.is("passOf: left", x.passOf(0), -1);
        due.is("passOf: client 5", x.passOf(5), -1);
        due.is("passOf: client -1", x.passOf(-1), -1);
        due.is("passOf: client most", x.passOf(MOST_INT), -1);
        due.is("passOf: client least", x.passOf(LEAST_INT), -1);
    }

    // Promise 9

    private static void strideOfLeavesTheRestOff() {
        StrideHeap x = new StrideHeap(4, BIG_100);
        x.join(0, 1);
        x.join(1, 3);
        x.join(2, 51);
        x.join(3, 99);
        due.is("strideOf: 100 / 1", x.strideOf(0), 100);
        due.is("strideOf: 100 / 3", x.strideOf(1), 33);
        due.is("strideOf: 100 / 51", x.strideOf(2), 1);
        due.is("strideOf: 100 / 99", x.strideOf(3), 1);
        due.is("strideOf: not in", x.strideOf(4), -1);
        x.leave(1);
        due.is("strideOf: left", x.strideOf(1), -1);
        x.join(1, 50);
        due.is("strideOf: back with others", x.strideOf(1), 2);
        due.is("strideOf: client 5", x.strideOf(5), -1);
        due.is("strideOf: client -1", x.strideOf(-1), -1);
        due.is("strideOf: client most", x.strideOf(MOST_INT), -1);
        due.is("strideOf: client least", x.strideOf(LEAST_INT), -1);
    }

    // Promise 10

    private static void clientsCounts() {
        StrideHeap x = new StrideHeap(63, BIG_100);
        for (int client = 63; client >= 0; client--) {
            x.join(client, 1 + client);
            due.is("clients: joining", x.clients(), 64 - client);
        }
        x.turns(500);
        due.is("clients: turns change nothing", x.clients(), 64);
        for (int client = 0; client < 64; client++) {
            x.leave(client);
            due.is("clients: leaving", x.clients(), 63 - client);
        }
    }

    // Promise 11

    private static void spreadTellsTheDistance() {
        StrideHeap x = new StrideHeap(4, BIG_100);
        due.is("spread: nobody", x.spread(), -1);
        x.join(0, 1);
        due.is("spread: one", x.spread(), 0);
        x.next();
        due.is("spread: one, further", x.spread(), 0);
        x.join(1, 10);
        x.join(2, 50);
        due.is("spread: equal", x.spread(), 0);
        x.next();
        due.is("spread: 0 went on", x.spread(), 100);
        x.turns(2);
        due.is("spread: all went on", x.spread(), 98);
        x.leave(0);
        due.is("spread: the furthest left", x.spread(), 8);
        x.leave(2);
        due.is("spread: one is left", x.spread(), 0);
        x.leave(1);
        due.is("spread: nobody is left", x.spread(), -1);
    }

    // Promise 12

    private static void orderIsByPassThenNumber() {
        StrideHeap x = new StrideHeap(4, BIG_100);
        due.is("order: nobody", x.order(0), -1);
        int[] joining = {3, 1, 4, 0};
        for (int client : joining) {
            x.join(client, 10 * (client + 1));
        }
        orderIs(x, 0, 1, 3, 4);
        x.next();
        orderIs(x, 1, 3, 4, 0);
        x.turns(2);
        orderIs(x, 4, 3, 1, 0);
        x.change(4, 20);
        x.next();
        orderIs(x, 3, 1, 4, 0);
        x.change(3, 12);
        x.next();
        orderIs(x, 1, 4, 0, 3);
        x.leave(4);
        orderIs(x, 1, 0, 3);
        x.join(2, 9);
        orderIs(x, 1, 2, 0, 3);
    }

    private static void orderIs(StrideHeap x, int... clients) {
        for (int k = 0; k < clients.length; k++) {
            due.is("order(" + k + ")", x.order(k), clients[k]);
        }
        due.is("order(" + clients.length + ")", x.order(clients.length), -1);
        due.is("order(-1)", x.order(-1), -1);
        due.is("order(64)", x.order(64), -1);
        due.is("order(most)", x.order(MOST_INT), -1);
        due.is("order(least)", x.order(LEAST_INT), -1);
    }

    /** Equal strides make every turn go to the end of a full line, the dearest turn there is. */
    private static void aFullHouseOf512Calls() {
        StrideHeap x = new StrideHeap(63, 62);
        for (int client = 0; client < 64; client++) {
            x.join(client, 40);
        }
        for (int call = 64; call < 510; call++) {
            due.is("full: turns(1000)", x.turns(1000), 1000);
        }
        due.is("full: ranOf(0)", x.ranOf(0), 6969);
        due.is("full: passOf(63)", x.passOf(63), 6968);
    }
}
