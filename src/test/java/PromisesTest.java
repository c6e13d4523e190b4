/** Each promise of the document by hand-made runs of ordinary inputs; BoundariesTest has the rest. */
public final class PromisesTest {
    private static final int BIG_100 = 98;
    private static final Due due = new Due("PromisesTest");

    public static void main(String[] args) {
        newObjectHasItsSizes();
        joinTakesTheFirstPass();
        joinTakesTheLatestLeftPass();
        leftPassWaitsForAnEmptyHouse();
        leaveTakesOneOut();
        nextGoesToTheFirst();
        turnsCountsWhatWent();
        changeCountsFromTheNextTurn();
        ranOfKeepsItsCount();
        passOfTellsThePass();
        strideOfLeavesTheRestOff();
        clientsCountsThoseThatAreIn();
        spreadTellsTheDistance();
        orderIsByPassThenNumber();
        due.end();
    }

    // Promise 1

    private static void newObjectHasItsSizes() {
        StrideHeap x = new StrideHeap(9, 40);
        due.is("new: clients", x.clients(), 0);
        due.is("new: client 9 joins", x.join(9, 1), 1);
        due.is("new: client 10 is none", x.join(10, 1), -1);
        due.is("new: the stride of 1 ticket is BIG", x.strideOf(9), 42);
    }

    // Promise 2

    private static void joinTakesTheFirstPass() {
        StrideHeap x = new StrideHeap(4, BIG_100);
        due.is("join: first of all", x.join(3, 10), 1);
        due.is("join: starts at 0", x.passOf(3), 0);
        x.turns(3);
        due.is("join: second", x.join(4, 4), 1);
        due.is("join: second's pass", x.passOf(4), 30);
        due.is("join: tie goes to the lesser", x.next(), 3);
        due.is("join: third", x.join(0, 99), 1);
        due.is("join: third takes the least pass", x.passOf(0), 30);
        due.is("join: third goes before an equal greater one", x.order(0), 0);
        due.is("join: the others keep their pass", x.passOf(3), 40);
        due.is("join: clients", x.clients(), 3);
    }

    private static void joinTakesTheLatestLeftPass() {
        StrideHeap x = new StrideHeap(4, BIG_100);
        x.join(0, 10);
        x.join(1, 1);
        x.turns(3);
        due.is("join: pass of 0", x.passOf(0), 20);
        due.is("join: pass of 1", x.passOf(1), 100);
        x.leave(0);
        x.leave(1);
        x.join(2, 5);
        due.is("join: the latest left at 100", x.passOf(2), 100);
        x.join(0, 50);
        due.is("join: its own old pass is forgotten", x.passOf(0), 100);
        x.next();
        x.leave(2);
        x.leave(0);
        x.join(1, 1);
        due.is("join: the latest left at 102", x.passOf(1), 102);
    }

    private static void leftPassWaitsForAnEmptyHouse() {
        StrideHeap x = new StrideHeap(4, BIG_100);
        x.join(0, 1);
        x.join(1, 1);
        x.next();
        x.leave(0);
        x.join(2, 1);
        due.is("join: somebody is in, so its pass counts", x.passOf(2), 0);
    }

    // Promise 3

    private static void leaveTakesOneOut() {
        StrideHeap x = new StrideHeap(4, BIG_100);
        for (int client = 0; client < 5; client++) {
            x.join(client, 10);
        }
        due.is("leave: the middle one", x.leave(2), 1);
        due.is("leave: the first one", x.leave(0), 1);
        due.is("leave: the last one", x.leave(4), 1);
        due.is("leave: clients", x.clients(), 2);
        due.order("leave", x, 1, 3);
        due.is("leave: passOf", x.passOf(2), -1);
        due.is("leave: strideOf", x.strideOf(2), -1);
        due.is("leave: comes back", x.join(2, 10), 1);
        due.is("leave: and leaves again", x.leave(2), 1);
    }

    // Promise 4

    private static void nextGoesToTheFirst() {
        StrideHeap x = new StrideHeap(4, BIG_100);
        due.is("next: nobody", x.next(), -1);
        x.join(2, 50);
        x.join(1, 20);
        int[] want = {1, 2, 2, 2, 1, 2, 2, 1, 2};
        for (int i = 0; i < want.length; i++) {
            due.is("next: turn " + i, x.next(), want[i]);
        }
        due.is("next: pass of 1", x.passOf(1), 15);
        due.is("next: pass of 2", x.passOf(2), 12);
        x.leave(1);
        x.leave(2);
        due.is("next: nobody again", x.next(), -1);
    }

    // Promise 5

    private static void turnsCountsWhatWent() {
        StrideHeap x = new StrideHeap(4, BIG_100);
        due.is("turns: nobody", x.turns(1), 0);
        due.is("turns: nobody, most", x.turns(1000), 0);
        x.join(0, 50);
        x.join(1, 25);
        due.is("turns: 1", x.turns(1), 1);
        due.is("turns: 1 went to 0", x.ranOf(0), 1);
        due.is("turns: 5", x.turns(5), 5);
        due.is("turns: 0 ran", x.ranOf(0), 4);
        due.is("turns: 1 ran", x.ranOf(1), 2);
        due.is("turns: 1000", x.turns(1000), 1000);
        due.is("turns: all ran", x.ranOf(0) + x.ranOf(1), 1006);
    }

    // Promise 6

    private static void changeCountsFromTheNextTurn() {
        StrideHeap x = new StrideHeap(4, BIG_100);
        x.join(0, 10);
        x.join(1, 10);
        x.next();
        due.is("change: the old ones", x.change(0, 99), 10);
        due.is("change: the pass stays", x.passOf(0), 10);
        due.is("change: the stride is new", x.strideOf(0), 1);
        due.is("change: the order stays", x.order(0), 1);
        due.is("change: again", x.change(0, 20), 99);
        due.is("change: to the same", x.change(0, 20), 20);
        x.next();
        due.is("change: 0 goes on", x.next(), 0);
        due.is("change: by its new stride", x.passOf(0), 15);
        due.is("change: the other's stride stays", x.strideOf(1), 10);
        due.is("change: the count stays", x.ranOf(0), 2);
    }

    // Promise 7

    private static void ranOfKeepsItsCount() {
        StrideHeap x = new StrideHeap(4, BIG_100);
        x.join(0, 10);
        x.turns(7);
        due.is("ranOf: ran", x.ranOf(0), 7);
        x.leave(0);
        due.is("ranOf: kept when it left", x.ranOf(0), 7);
        x.join(0, 5);
        due.is("ranOf: kept when it joined again", x.ranOf(0), 7);
        x.next();
        due.is("ranOf: goes on", x.ranOf(0), 8);
        due.is("ranOf: never in", x.ranOf(4), 0);
    }

    // Promise 8

    private static void passOfTellsThePass() {
        StrideHeap x = new StrideHeap(4, BIG_100);
        x.join(0, 7);
        due.is("passOf: at first", x.passOf(0), 0);
        x.turns(3);
        due.is("passOf: three strides", x.passOf(0), 42);
        due.is("passOf: not in", x.passOf(1), -1);
        x.leave(0);
        due.is("passOf: left", x.passOf(0), -1);
    }

    // Promise 9

    private static void strideOfLeavesTheRestOff() {
        StrideHeap x = new StrideHeap(4, BIG_100);
        x.join(0, 1);
        x.join(1, 3);
        x.join(2, 51);
        x.join(3, 99);
        due.is("strideOf: 100 / 1", x.strideOf(0), 100);
        due.is("strideOf: 100 / 3", x.strideOf(1), 33);
        due.is("strideOf: 100 / 51", x.strideOf(2), 1);
        due.is("strideOf: 100 / 99", x.strideOf(3), 1);
        due.is("strideOf: not in", x.strideOf(4), -1);
        x.leave(1);
        due.is("strideOf: left", x.strideOf(1), -1);
        x.join(1, 50);
        due.is("strideOf: back with others", x.strideOf(1), 2);
    }

    // Promise 10

    private static void clientsCountsThoseThatAreIn() {
        StrideHeap x = new StrideHeap(4, BIG_100);
        x.join(3, 10);
        x.join(1, 10);
        due.is("clients: two joined", x.clients(), 2);
        x.turns(20);
        due.is("clients: turns change nothing", x.clients(), 2);
        x.leave(3);
        due.is("clients: one left", x.clients(), 1);
        x.join(0, 10);
        x.join(3, 10);
        due.is("clients: two more joined", x.clients(), 3);
    }

    // Promise 11

    private static void spreadTellsTheDistance() {
        StrideHeap x = new StrideHeap(4, BIG_100);
        due.is("spread: nobody", x.spread(), -1);
        x.join(0, 1);
        due.is("spread: one", x.spread(), 0);
        x.next();
        due.is("spread: one, further", x.spread(), 0);
        x.join(1, 10);
        x.join(2, 50);
        due.is("spread: equal", x.spread(), 0);
        x.next();
        due.is("spread: 0 went on", x.spread(), 100);
        x.turns(2);
        due.is("spread: all went on", x.spread(), 98);
        x.leave(0);
        due.is("spread: the furthest left", x.spread(), 8);
        x.leave(2);
        due.is("spread: one is left", x.spread(), 0);
        x.leave(1);
        due.is("spread: nobody is left", x.spread(), -1);
    }

    // Promise 12

    private static void orderIsByPassThenNumber() {
        StrideHeap x = new StrideHeap(4, BIG_100);
        due.is("order: nobody", x.order(0), -1);
        int[] joining = {3, 1, 4, 0};
        for (int client : joining) {
            x.join(client, 10 * (client + 1));
        }
        due.order("order", x, 0, 1, 3, 4);
        x.next();
        due.order("order", x, 1, 3, 4, 0);
        x.turns(2);
        due.order("order", x, 4, 3, 1, 0);
        x.change(4, 20);
        x.next();
        due.order("order", x, 3, 1, 4, 0);
        x.change(3, 12);
        x.next();
        due.order("order", x, 1, 4, 0, 3);
        x.leave(4);
        due.order("order", x, 1, 0, 3);
        x.join(2, 9);
        due.order("order", x, 1, 2, 0, 3);
    }
}
