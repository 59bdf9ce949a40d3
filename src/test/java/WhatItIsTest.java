import java.util.ArrayList;
import java.util.HashSet;
import java.util.List;
import java.util.Random;
import java.util.Set;

/** What stands under 'What it is': what the terms and promises come to when they work together. */
public final class WhatItIsTest implements Terms {
    private static final int RUNS = 300;

    /** Five operations that need one another, roots first; each replica may get them in any order. */
    private static final long ROOT = Hashes.of(0, PUT, 2, 5);
    private static final long ADDED = Hashes.of(3, ADD, 2, 7, ROOT);
    private static final long LOCKED = Hashes.of(1, LOCK, 2, 0, ROOT);
    private static final long FREED = Hashes.of(1, FREE, 2, 0, LOCKED);

    public static void main(String[] args) {
        Check.edge("Replicas that keep the same growing web of operations", WhatItIsTest::webGrows);
        Check.edge("each naming the ones before it by their hashes", WhatItIsTest::linksStandBefore);
        Check.edge("offered by anybody in any order", WhatItIsTest::anyOrder);
        Check.edge("let in only when they are right by what came before them", WhatItIsTest::onlyWhatIsRight);
        Check.edge("two replicas that meet ask one another for what they lack until both hold all that either held",
            WhatItIsTest::bothHoldAll);
        Check.finish();
    }

    private static int offerOneOfFive(HashLinkedWeb web, int replica, int number) {
        return switch (number) {
            case 0 -> Offers.offer(web, replica, 0, PUT, 2, 5);
            case 1 -> Offers.offer(web, replica, 3, ADD, 2, 7, ROOT);
            case 2 -> Offers.offer(web, replica, 1, LOCK, 2, 0, ROOT);
            case 3 -> Offers.offer(web, replica, 1, FREE, 2, 0, LOCKED);
            default -> Offers.offer(web, replica, 2, ADD, 2, 30, Offers.growing(ADDED, FREED));
        };
    }

    private static void addOrders(List<Integer> begun, List<List<Integer>> orders) {
        if (begun.size() == 5) {
            orders.add(new ArrayList<>(begun));
        }
        for (int number = 0; number < 5; number++) {
            if (!begun.contains(number)) {
                begun.add(number);
                addOrders(begun, orders);
                begun.remove(begun.size() - 1);
            }
        }
    }

    /** In each of the 120 orders, with no more than four that wait at a time. */
    private static void anyOrder() {
        List<List<Integer>> orders = new ArrayList<>();
        addOrders(new ArrayList<>(), orders);
        Check.due("orders", orders.size(), 120);
        String due = null;
        for (List<Integer> order : orders) {
            HashLinkedWeb web = new HashLinkedWeb();
            for (int number : order) {
                int answer = offerOneOfFive(web, 1, number);
                Check.due(order + ": " + number, answer == LET_IN || answer == WAITS, true);
            }
            Check.due(order + ": held", web.held(1), 5);
            Check.due(order + ": waiting", web.waiting(1), 0);
            Check.due(order + ": value", web.value(1, 2), 42);
            web.draft(0, 0, 0, 0);
            String readings = Readings.of(web);
            due = due == null ? readings : due;
            Check.due(order + ": the same readings", readings.equals(due), true);
        }
    }

    private static HashLinkedWeb someWeb(Random random) {
        HashLinkedWeb web = new HashLinkedWeb();
        for (int i = 0; i < 45; i++) {
            int replica = random.nextInt(4);
            int key = random.nextInt(2);
            switch (random.nextInt(8)) {
                case 0 -> web.meet(replica, random.nextInt(4));
                case 1, 2 -> Offers.offer(web, replica, random.nextInt(4), random.nextInt(4), key, i,
                    someLinks(web, random));
                default -> web.write(replica, random.nextInt(4), key, i);
            }
        }
        return web;
    }

    private static long[] someLinks(HashLinkedWeb web, Random random) {
        Set<Long> links = new HashSet<>();
        for (int i = random.nextInt(4); i > 0; i--) {
            links.add(web.hashAt(random.nextInt(4), random.nextInt(8)));
        }
        return links.stream().mapToLong(Long::longValue).sorted().toArray();
    }

    private static Set<Long> hashesOf(HashLinkedWeb web, int replica) {
        Set<Long> hashes = new HashSet<>();
        int count = web.held(replica);
        for (int k = 0; k < count; k++) {
            hashes.add(web.hashAt(replica, k));
        }
        return hashes;
    }

    private static void webGrows() {
        HashLinkedWeb web = new HashLinkedWeb();
        Random random = new Random(1);
        List<Set<Long>> before = new ArrayList<>();
        for (int r = 0; r < 4; r++) {
            before.add(hashesOf(web, r));
        }
        for (int i = 0; i < 10; i++) {
            web.write(random.nextInt(4), PUT, 0, i);
            web.meet(random.nextInt(4), random.nextInt(4));
            web.drop(random.nextInt(4));
            for (int r = 0; r < 4; r++) {
                Set<Long> now = hashesOf(web, r);
                Check.due("what was held is held", now.containsAll(before.get(r)), true);
                before.set(r, now);
            }
        }
        Check.due("all", web.all(), 10);
    }

    private static void linksStandBefore() {
        for (int run = 0; run < RUNS; run++) {
            HashLinkedWeb web = someWeb(new Random(run));
            int replica = run % 4;
            Set<Long> before = new HashSet<>();
            int count = web.held(replica);
            for (int k = 0; k < count; k++) {
                int links = web.about(replica, k, 4);
                for (int j = 0; j < links; j++) {
                    long link = web.linkAt(replica, k, j);
                    Check.due("run " + run + ": link " + j + " of " + k, before.contains(link), true);
                }
                before.add(web.hashAt(replica, k));
            }
        }
    }

    private static void onlyWhatIsRight() {
        HashLinkedWeb web = new HashLinkedWeb();
        for (int number : new int[] {0, 1, 2}) {
            Check.due("one of five", offerOneOfFive(web, 0, number), LET_IN);
        }
        long[] links = Offers.growing(ADDED, LOCKED);
        Check.due("over the LOCK", Offers.offer(web, 0, 2, ADD, 2, 30, links), WRONG);
        Check.due("the FREE", offerOneOfFive(web, 0, 3), LET_IN);
        Check.due("over the LOCK still", Offers.offer(web, 0, 2, ADD, 2, 30, links), WRONG);
        Check.due("over the FREE", offerOneOfFive(web, 0, 4), LET_IN);
    }

    private static void bothHoldAll() {
        for (int run = 0; run < RUNS; run++) {
            HashLinkedWeb web = someWeb(new Random(run));
            int a = run % 4;
            int b = (run + 1 + run / 4 % 3) % 4;
            Set<Long> either = hashesOf(web, a);
            either.addAll(hashesOf(web, b));
            // What waits could be let in by the meeting, and then one of them would hold more than that.
            web.drop(a);
            web.drop(b);
            web.meet(a, b);
            Check.due("run " + run + ": a holds all", hashesOf(web, a).equals(either), true);
            Check.due("run " + run + ": b holds all", hashesOf(web, b).equals(either), true);
            Check.due("run " + run + ": nothing is lacking", web.meet(a, b), 0);
        }
    }
}
