import java.util.ArrayList;
import java.util.Comparator;
import java.util.List;
import java.util.Random;
import java.util.TreeMap;

/** Long runs of mixed calls, each answer held against a model that follows the document's words. */
public final class ModelTest {
    private static final int RUNS = 400;
    private static final int CALLS = 512;
    /** Neighbouring seeds give nearly the same first draw, so they are put far apart. */
    private static final long SEED_STEP = 0x9E3779B97F4A7C15L;
    private static final int[] ODD = {
        Integer.MIN_VALUE, -32768, -1000, -65, -64, -2, -1, 0, 1, 63, 64, 65, 999, 1000, 1001,
        32766, 32767, 32768, 32769, Integer.MAX_VALUE};
    private static final Due due = new Due("ModelTest");

    /** A client that is in. */
    private static final class Member {
        final int number;
        int tickets;
        long pass;

        Member(int number, int tickets, long pass) {
            this.number = number;
            this.tickets = tickets;
            this.pass = pass;
        }
    }

    /** Searches anew on every call and keeps nothing in order. */
    private static final class Model {
        final int cap;
        final int big;
        final TreeMap<Integer, Member> in = new TreeMap<>();
        final int[] ran;
        long leftPass = 0;

        Model(int cap, int big) {
            this.cap = 1 + (int) ((((long) cap) % 64 + 64) % 64);
            this.big = 2 + (int) ((((long) big) % 32767 + 32767) % 32767);
            this.ran = new int[this.cap];
        }

        boolean isClient(int client) {
            return 0 <= client && client <= cap - 1;
        }

        boolean areTickets(int tickets) {
            return 1 <= tickets && tickets <= big - 1;
        }

        Member first() {
            Member first = null;
            for (Member member : in.values()) {
                if (first == null || member.pass < first.pass) {
                    first = member;
                }
            }
            return first;
        }

        long join(int client, int tickets) {
            if (!isClient(client)) return -1;
            if (in.containsKey(client)) return -2;
            if (!areTickets(tickets)) return -3;
            Member first = first();
            in.put(client, new Member(client, tickets, first == null ? leftPass : first.pass));
            return 1;
        }

        long leave(int client) {
            if (!isClient(client)) return -1;
            if (!in.containsKey(client)) return -2;
            leftPass = in.remove(client).pass;
            return 1;
        }

        long next() {
            Member first = first();
            if (first == null) return -1;
            long pass = first.pass + big / first.tickets;
            if (pass > Integer.MAX_VALUE) return -2;
            first.pass = pass;
            ran[first.number]++;
            return first.number;
        }

        long turns(int many) {
            if (many < 1 || many > 1000) return -1;
            for (int given = 0; given < many; given++) {
                if (next() < 0) return given;
            }
            return many;
        }

        long change(int client, int tickets) {
            if (!isClient(client)) return -1;
            if (!in.containsKey(client)) return -2;
            if (!areTickets(tickets)) return -3;
            long old = in.get(client).tickets;
            in.get(client).tickets = tickets;
            return old;
        }

        long ranOf(int client) {
            return isClient(client) ? ran[client] : -1;
        }

        long passOf(int client) {
            return in.containsKey(client) ? in.get(client).pass : -1;
        }

        long strideOf(int client) {
            return in.containsKey(client) ? big / in.get(client).tickets : -1;
        }

        long clients() {
            return in.size();
        }

        List<Member> ordered() {
            List<Member> all = new ArrayList<>(in.values());
            all.sort(Comparator.<Member>comparingLong(m -> m.pass).thenComparingInt(m -> m.number));
            return all;
        }

        long spread() {
            List<Member> all = ordered();
            return all.isEmpty() ? -1 : all.get(all.size() - 1).pass - all.get(0).pass;
        }

        long order(int k) {
            List<Member> all = ordered();
            return 0 <= k && k < all.size() ? all.get(k).number : -1;
        }
    }

    /** One run: both objects, and how its calls are chosen. */
    private static final class Run {
        final Random random;
        final StrideHeap heap;
        final Model model;
        final String name;
        final boolean fewTickets;
        final int longTurns;
        final int leaving;
        final boolean crowded;

        Run(int seed) {
            random = new Random(seed * SEED_STEP);
            int cap = random.nextInt(4) == 0 ? ODD[random.nextInt(ODD.length)] : random.nextInt(8) * 9;
            int big = random.nextInt(3) == 0 ? ODD[random.nextInt(ODD.length)] : random.nextInt();
            // Few clients, few tickets and many long turns reach the greatest pass.
            boolean far = seed % 4 == 0;
            if (far) {
                cap = seed % 3;
                big = -1 - seed % 5;
            }
            fewTickets = far || random.nextInt(3) == 0;
            longTurns = far ? 60 : random.nextInt(10);
            // Chance alone hardly ever brings 64 clients in at once.
            crowded = seed % 5 == 1;
            leaving = crowded ? 2 : random.nextInt(20);
            heap = new StrideHeap(cap, big);
            model = new Model(cap, big);
            name = "run " + seed + " (" + cap + ", " + big + "), call ";
        }

        int client() {
            return random.nextInt(12) == 0 ? ODD[random.nextInt(ODD.length)] : random.nextInt(model.cap);
        }

        int tickets() {
            if (random.nextInt(12) == 0) {
                int[] edges = {0, 1, model.big - 1, model.big, -1, Integer.MIN_VALUE, Integer.MAX_VALUE};
                return edges[random.nextInt(edges.length)];
            }
            return goodTickets();
        }

        int goodTickets() {
            return 1 + random.nextInt(fewTickets ? Math.min(3, model.big - 1) : model.big - 1);
        }

        int many() {
            return random.nextInt(8) == 0 ? ODD[random.nextInt(ODD.length)] : 1 + random.nextInt(1000);
        }

        void call(int number) {
            boolean filling = crowded && number < model.cap;
            int kind = filling ? 0 : random.nextInt(100 + longTurns + leaving);
            String call = name + number + ": ";
            int client = filling ? model.cap - 1 - number : client();
            int tickets = filling ? goodTickets() : tickets();
            int many = kind >= 100 + leaving ? 1000 : many();
            if (kind < 15) {
                due.is(call + "join(" + client + ", " + tickets + ")",
                    heap.join(client, tickets), model.join(client, tickets));
            } else if (kind < 40) {
                due.is(call + "next()", heap.next(), model.next());
            } else if (kind < 48) {
                due.is(call + "change(" + client + ", " + tickets + ")",
                    heap.change(client, tickets), model.change(client, tickets));
            } else if (kind < 58) {
                due.is(call + "ranOf(" + client + ")", heap.ranOf(client), model.ranOf(client));
            } else if (kind < 68) {
                due.is(call + "passOf(" + client + ")", heap.passOf(client), model.passOf(client));
            } else if (kind < 76) {
                due.is(call + "strideOf(" + client + ")", heap.strideOf(client), model.strideOf(client));
            } else if (kind < 80) {
                due.is(call + "clients()", heap.clients(), model.clients());
            } else if (kind < 86) {
                due.is(call + "spread()", heap.spread(), model.spread());
            } else if (kind < 96) {
                due.is(call + "order(" + client + ")", heap.order(client), model.order(client));
            } else if (kind < 100 || kind >= 100 + leaving) {
                due.is(call + "turns(" + many + ")", heap.turns(many), model.turns(many));
            } else {
                due.is(call + "leave(" + client + ")", heap.leave(client), model.leave(client));
            }
        }

        void wholeState() {
            due.is(name + "last: clients()", heap.clients(), model.clients());
            due.is(name + "last: spread()", heap.spread(), model.spread());
            for (int i = 0; i <= model.cap; i++) {
                due.is(name + "last: ranOf(" + i + ")", heap.ranOf(i), model.ranOf(i));
                due.is(name + "last: passOf(" + i + ")", heap.passOf(i), model.passOf(i));
                due.is(name + "last: strideOf(" + i + ")", heap.strideOf(i), model.strideOf(i));
                due.is(name + "last: order(" + i + ")", heap.order(i), model.order(i));
            }
        }
    }

    public static void main(String[] args) {
        // After a wrong answer the states differ, and what follows tells nothing new.
        for (int seed = 0; seed < RUNS && !due.anyWrong(); seed++) {
            Run run = new Run(seed);
            // The last look takes up to 262 calls of the 512.
            int mixed = seed % 2 == 0 ? CALLS : CALLS - 262;
            for (int number = 0; number < mixed && !due.anyWrong(); number++) {
                run.call(number);
            }
            if (mixed < CALLS && !due.anyWrong()) {
                run.wholeState();
            }
        }
        due.end();
    }
}
