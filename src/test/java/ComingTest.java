/** Promises 6, 8 and 10: offer, drop, waiting, with what the terms say of coming and of being right. */
public final class ComingTest {
    private static final int PUT = 0;
    private static final int ADD = 1;
    private static final int LOCK = 2;
    private static final int FREE = 3;
    private static final int HELD = HashLinkedWeb.HELD;
    private static final int LET_IN = HashLinkedWeb.LET_IN;
    private static final int WAITS = HashLinkedWeb.WAITS;
    private static final int WRONG = HashLinkedWeb.WRONG;
    private static final int[] NO_REPLICAS = {-1, 4, 5, Integer.MIN_VALUE, Integer.MAX_VALUE};

    public static void main(String[] args) {
        offerLetsInAndThenIsHeld();
        offerAtNoReplica();
        offerOutOfShape();
        linksMustGrow();
        oneThatWaitsWaitsOnce();
        sixthDropsTheFirst();
        waitingOnesComeOneAfterTheOther();
        firstReadyComesFirst();
        waitingOneThatIsWrongLeaves();
        linksOfOneAnothersPastAreWrong();
        locksKeepOthersOut();
        freeMustStandOverTheLock();
        freeMustBeOfTheLocksAuthorAndKey();
        everyLockMustBeFreed();
        fortyAreLetIn();
        dropEmptiesTheRow();
        waitingCounts();
        Check.finish();
    }

    private static int offer(HashLinkedWeb web, int replica, int author, int kind, int key, int value, long... links) {
        return Offers.offer(web, replica, author, kind, key, value, links);
    }

    private static void offerLetsInAndThenIsHeld() {
        HashLinkedWeb web = new HashLinkedWeb();
        web.draft(1, ADD, 7, -3);
        Check.due("offer: first", web.offer(0), LET_IN);
        Check.due("offer: again", web.offer(0), HELD);
        Check.due("offer: held once", web.held(0), 1);
        Check.due("offer: elsewhere", web.offer(3), LET_IN);
        Check.due("offer: one in all", web.all(), 1);
        Check.due("offer: on top", offer(web, 3, 2, PUT, 7, 5, Hashes.of(1, ADD, 7, -3)), LET_IN);
        Check.due("offer: two in all", web.all(), 2);
        Check.due("offer: the other holds one", web.held(0), 1);
        Check.due("offer: any author anywhere", web.about(3, 1, 0), 2);
    }

    private static void offerAtNoReplica() {
        HashLinkedWeb web = new HashLinkedWeb();
        for (int r : NO_REPLICAS) {
            Check.due("offer at " + r, web.offer(r), HashLinkedWeb.NONE);
        }
        Check.due("offer at no replica: all", web.all(), 0);
    }

    private static void offerOutOfShape() {
        HashLinkedWeb web = new HashLinkedWeb();
        int[] edges = {-1, Integer.MIN_VALUE, Integer.MAX_VALUE};
        for (int edge : edges) {
            Check.due("author " + edge, offer(web, 0, edge, 0, 0, 0), WRONG);
            Check.due("kind " + edge, offer(web, 0, 0, edge, 0, 0), WRONG);
            Check.due("key " + edge, offer(web, 0, 0, 0, edge, 0), WRONG);
        }
        Check.due("author 4", offer(web, 0, 4, 0, 0, 0), WRONG);
        Check.due("kind 4", offer(web, 0, 0, 4, 0, 0), WRONG);
        Check.due("key 8", offer(web, 0, 0, 0, 8, 0), WRONG);
        Check.due("out of shape and a link that is not held", offer(web, 0, 4, 0, 0, 0, 77), WRONG);
        Check.due("out of shape: held", web.held(0), 0);
        Check.due("out of shape: waiting", web.waiting(0), 0);
        Check.due("the greatest in shape", offer(web, 0, 3, 3, 7, Integer.MAX_VALUE), LET_IN);
        Check.due("the least in shape", offer(web, 0, 0, 0, 0, Integer.MIN_VALUE), LET_IN);
    }

    private static void linksMustGrow() {
        HashLinkedWeb web = new HashLinkedWeb();
        Check.due("same links", offer(web, 0, 0, 0, 0, 0, 6, 6), WRONG);
        Check.due("falling links", offer(web, 0, 0, 0, 0, 0, 7, 6), WRONG);
        Check.due("falling at the end", offer(web, 0, 0, 0, 0, 0, 1, 2, 4, 3), WRONG);
        Check.due("the last two the same", offer(web, 0, 0, 0, 0, 0, 1, 2, 3, 3), WRONG);
        Check.due("without sign they would grow", offer(web, 0, 0, 0, 0, 0, 1, -1), WRONG);
        Check.due("nothing waits", web.waiting(0), 0);
        Check.due("growing with sign", offer(web, 0, 0, 0, 0, 0, Long.MIN_VALUE, -1, 0, Long.MAX_VALUE), WAITS);
        Offers.offer(web, 1, 0, PUT, 0, 1);
        Offers.offer(web, 1, 0, PUT, 0, 2);
        long one = web.hashAt(1, 0);
        long two = web.hashAt(1, 1);
        Check.due("held links that fall", offer(web, 1, 0, 0, 0, 3, two, one), WRONG);
        Check.due("held links, the same", offer(web, 1, 0, 0, 0, 3, one, one), WRONG);
        Check.due("held links that grow", offer(web, 1, 0, 0, 0, 3, one, two), LET_IN);
    }

    private static void oneThatWaitsWaitsOnce() {
        HashLinkedWeb web = new HashLinkedWeb();
        for (int i = 0; i < 3; i++) {
            Check.due("waits", offer(web, 2, 2, 0, 0, 1, 5), WAITS);
            Check.due("waits once", web.waiting(2), 1);
        }
        Check.due("waits elsewhere", web.offer(1), WAITS);
        Check.due("waits there too", web.waiting(1), 1);
        Check.due("what waits is not held", web.held(2), 0);
        Check.due("what waits was not let in", web.all(), 0);
        Check.due("what waits, has", web.has(2, web.draftHash()), false);
    }

    /** Operations 1 to n by their values, each of which waits for an operation of its own. */
    private static long waitFor(HashLinkedWeb web, int replica, int number) {
        long link = Hashes.of(3, PUT, 0, 1000 + number);
        Check.due("waits " + number, offer(web, replica, 0, ADD, 1, number, link), WAITS);
        return Hashes.of(0, ADD, 1, number, link);
    }

    private static void sixthDropsTheFirst() {
        HashLinkedWeb web = new HashLinkedWeb();
        long[] hashes = new long[8];
        for (int i = 1; i <= 5; i++) {
            hashes[i] = waitFor(web, 0, i);
            Check.due("row of " + i, web.waiting(0), i);
        }
        waitFor(web, 0, 1);
        Check.due("one again does not make six", web.waiting(0), 5);
        hashes[6] = waitFor(web, 0, 6);
        Check.due("five stay", web.waiting(0), 5);
        hashes[7] = waitFor(web, 0, 7);
        Check.due("five stay still", web.waiting(0), 5);
        for (int i = 1; i <= 7; i++) {
            Check.due("what " + i + " waits for", offer(web, 0, 3, PUT, 0, 1000 + i), LET_IN);
            Check.due("held " + i, web.has(0, hashes[i]), i > 2);
        }
        Check.due("none waits", web.waiting(0), 0);
        Check.due("all that came", web.held(0), 12);
    }

    private static void waitingOnesComeOneAfterTheOther() {
        HashLinkedWeb web = new HashLinkedWeb();
        long[] chain = new long[6];
        chain[0] = Hashes.of(0, ADD, 0, 0);
        for (int i = 1; i < 6; i++) {
            chain[i] = Hashes.of(i % 4, ADD, 0, i, chain[i - 1]);
        }
        for (int i = 5; i >= 1; i--) {
            Check.due("chain " + i, offer(web, 1, i % 4, ADD, 0, i, chain[i - 1]), WAITS);
        }
        Check.due("chain: waiting", web.waiting(1), 5);
        Check.due("chain: its first", offer(web, 1, 0, ADD, 0, 0), LET_IN);
        Check.due("chain: none waits", web.waiting(1), 0);
        Check.due("chain: all held", web.held(1), 6);
        for (int i = 0; i < 6; i++) {
            Check.due("chain: at " + i, web.hashAt(1, i), chain[i]);
        }
        Check.due("chain: value", web.value(1, 0), 15);
    }

    /** Only one more place is left, so what was let in shows which of those that wait came first. */
    private static void firstReadyComesFirst() {
        HashLinkedWeb web = new HashLinkedWeb();
        long base = Hashes.of(2, PUT, 5, 5);
        for (int i = 1; i <= 3; i++) {
            Check.due("ready " + i, offer(web, 0, i, PUT, 6, i, base), WAITS);
        }
        for (int i = 0; i < 38; i++) {
            web.write(1, ADD, 0, 1);
        }
        Check.due("38 so far", web.all(), 38);
        Check.due("the 39th", offer(web, 0, 2, PUT, 5, 5), LET_IN);
        Check.due("40 in all", web.all(), 40);
        Check.due("first was let in", web.has(0, Hashes.of(1, PUT, 6, 1, base)), true);
        Check.due("second was not", web.has(0, Hashes.of(2, PUT, 6, 2, base)), false);
        Check.due("all have left", web.waiting(0), 0);
    }

    private static void waitingOneThatIsWrongLeaves() {
        HashLinkedWeb web = new HashLinkedWeb();
        long lock = Hashes.of(0, LOCK, 2, 0);
        Check.due("waits for a lock", offer(web, 3, 1, PUT, 2, 7, lock), WAITS);
        Check.due("waits for it too", offer(web, 3, 0, PUT, 2, 8, lock), WAITS);
        Check.due("the lock", offer(web, 3, 0, LOCK, 2, 0), LET_IN);
        Check.due("none waits", web.waiting(3), 0);
        Check.due("only the lock's author's came in", web.held(3), 2);
        Check.due("value", web.value(3, 2), 8);
    }

    private static void linksOfOneAnothersPastAreWrong() {
        HashLinkedWeb web = new HashLinkedWeb();
        web.write(0, PUT, 0, 1);
        web.write(0, PUT, 0, 2);
        web.write(0, PUT, 0, 3);
        long[] chain = {web.hashAt(0, 0), web.hashAt(0, 1), web.hashAt(0, 2)};
        for (int i = 0; i < 3; i++) {
            for (int j = i + 1; j < 3; j++) {
                long low = Math.min(chain[i], chain[j]);
                long high = Math.max(chain[i], chain[j]);
                Check.due("links " + i + " and " + j, offer(web, 0, 1, PUT, 3, 3, low, high), WRONG);
            }
        }
        Offers.offer(web, 0, 3, PUT, 7, 0);
        long beside = web.draftHash();
        for (int i = 0; i < 3; i++) {
            long low = Math.min(chain[i], beside);
            long high = Math.max(chain[i], beside);
            Check.due("links " + i + " and beside", offer(web, 0, 1, PUT, 3, 3, low, high), LET_IN);
        }
        Check.due("one link in the midst", offer(web, 0, 1, PUT, 3, 4, chain[1]), LET_IN);
    }

    private static void locksKeepOthersOut() {
        HashLinkedWeb web = new HashLinkedWeb();
        web.write(0, LOCK, 3, 0);
        long lock = web.hashAt(0, 0);
        web.write(0, PUT, 1, 0);
        long over = web.headAt(0, 0);
        for (int kind = PUT; kind <= FREE; kind++) {
            Check.due("kind " + kind + " on the lock", offer(web, 0, 1, kind, 3, 8, lock), WRONG);
            Check.due("kind " + kind + " further on", offer(web, 0, 2, kind, 3, 8, over), WRONG);
            Check.due("kind " + kind + " of another key", offer(web, 0, 1, kind, 4, 8, lock), LET_IN);
            Check.due("kind " + kind + " beside the lock", offer(web, 0, 1, kind, 3, 8), LET_IN);
        }
        Check.due("the lock's author", offer(web, 0, 0, PUT, 3, 9, lock), LET_IN);
        Check.due("the lock's author locks again", offer(web, 0, 0, LOCK, 3, 9, lock), LET_IN);
        Check.due("put and add lock nothing", offer(web, 0, 2, LOCK, 1, 9), LET_IN);
    }

    private static void freeMustStandOverTheLock() {
        HashLinkedWeb web = new HashLinkedWeb();
        web.write(0, LOCK, 3, 0);
        long lock = web.hashAt(0, 0);
        Check.due("a free beside the lock", offer(web, 0, 0, FREE, 3, 0), LET_IN);
        long beside = web.draftHash();
        long low = Math.min(lock, beside);
        long high = Math.max(lock, beside);
        Check.due("over lock and a free beside it", offer(web, 0, 1, PUT, 3, 1, low, high), WRONG);
        Check.due("a free before a lock", offer(web, 0, 0, LOCK, 3, 5, beside), LET_IN);
        Check.due("over that lock", offer(web, 0, 1, PUT, 3, 1, web.draftHash()), WRONG);
        Check.due("a free over the lock", offer(web, 0, 0, FREE, 3, 0, lock), LET_IN);
        long free = web.draftHash();
        Check.due("over the free", offer(web, 0, 1, PUT, 3, 1, free), LET_IN);
        Check.due("on the lock, not over the free", offer(web, 0, 1, PUT, 3, 1, lock), WRONG);
        Check.due("something between", offer(web, 0, 0, PUT, 6, 0, lock), LET_IN);
        Check.due("a free further on", offer(web, 0, 0, FREE, 3, 2, web.draftHash()), LET_IN);
        Check.due("over the free further on", offer(web, 0, 3, ADD, 3, 1, web.draftHash()), LET_IN);
    }

    private static void freeMustBeOfTheLocksAuthorAndKey() {
        HashLinkedWeb web = new HashLinkedWeb();
        web.write(0, LOCK, 3, 0);
        long lock = web.hashAt(0, 0);
        Check.due("another's free", offer(web, 0, 1, FREE, 3, 0, lock), WRONG);
        Check.due("a free of another key", offer(web, 0, 0, FREE, 4, 0, lock), LET_IN);
        Check.due("over it", offer(web, 0, 1, PUT, 3, 0, web.draftHash()), WRONG);
        Check.due("another's free of another key", offer(web, 0, 1, FREE, 4, 0, lock), LET_IN);
        Check.due("over that", offer(web, 0, 1, PUT, 3, 0, web.draftHash()), WRONG);
        Check.due("a lock of the same author again", offer(web, 0, 0, LOCK, 3, 1, lock), LET_IN);
        Check.due("over it", offer(web, 0, 1, PUT, 3, 0, web.draftHash()), WRONG);
    }

    private static void everyLockMustBeFreed() {
        HashLinkedWeb web = new HashLinkedWeb();
        Offers.offer(web, 0, 0, LOCK, 3, 0);
        long lockOf0 = web.draftHash();
        Offers.offer(web, 0, 1, LOCK, 3, 0);
        long lockOf1 = web.draftHash();
        long low = Math.min(lockOf0, lockOf1);
        long high = Math.max(lockOf0, lockOf1);
        Check.due("the one is locked out by the other", offer(web, 0, 0, FREE, 3, 0, low, high), WRONG);
        Check.due("a free of the one", offer(web, 0, 0, FREE, 3, 0, lockOf0), LET_IN);
        long freeOf0 = web.draftHash();
        low = Math.min(freeOf0, lockOf1);
        high = Math.max(freeOf0, lockOf1);
        Check.due("a third: one lock is not freed", offer(web, 0, 2, PUT, 3, 0, low, high), WRONG);
        Check.due("the other one may free", offer(web, 0, 1, FREE, 3, 0, low, high), LET_IN);
        Check.due("a third over both", offer(web, 0, 2, PUT, 3, 4, web.draftHash()), LET_IN);
        Check.due("one free for two locks", oneFreeForTwoLocks(), LET_IN);
    }

    private static int oneFreeForTwoLocks() {
        HashLinkedWeb web = new HashLinkedWeb();
        web.write(0, LOCK, 3, 0);
        web.write(0, LOCK, 3, 1);
        web.write(0, FREE, 3, 0);
        return offer(web, 0, 1, PUT, 3, 0, web.headAt(0, 0));
    }

    private static void fortyAreLetIn() {
        HashLinkedWeb web = new HashLinkedWeb();
        for (int i = 0; i < 40; i++) {
            Check.due("let in " + i, offer(web, i % 3, i % 4, PUT, i % 8, i), LET_IN);
        }
        Check.due("40: all", web.all(), 40);
        Check.due("the 41st offered", offer(web, 0, 0, PUT, 0, 40), WRONG);
        Check.due("the 41st written", web.write(3, PUT, 0, 40), WRONG);
        Check.due("one that must wait still waits", offer(web, 3, 0, PUT, 0, 1, Hashes.of(0, PUT, 0, 0)), WAITS);
        Check.due("one of the forty elsewhere", offer(web, 3, 0, PUT, 0, 0), LET_IN);
        Check.due("what waited for it is wrong", web.waiting(3), 0);
        Check.due("and not held", web.held(3), 1);
        Check.due("one that is held", offer(web, 0, 0, PUT, 0, 0), HELD);
        Check.due("40 still", web.all(), 40);
    }

    private static void dropEmptiesTheRow() {
        HashLinkedWeb web = new HashLinkedWeb();
        for (int i = 1; i <= 3; i++) {
            waitFor(web, 1, i);
        }
        waitFor(web, 2, 1);
        Check.due("drop", web.drop(1), 3);
        Check.due("drop again", web.drop(1), 0);
        Check.due("dropped: waiting", web.waiting(1), 0);
        Check.due("waiting elsewhere", web.waiting(2), 1);
        Check.due("what one waited for", offer(web, 1, 3, PUT, 0, 1001), LET_IN);
        Check.due("dropped ones do not come", web.held(1), 1);
        Check.due("one waits anew", offer(web, 1, 0, ADD, 1, 2, Hashes.of(3, PUT, 0, 1002)), WAITS);
        Check.due("drop what waits anew", web.drop(1), 1);
        Check.due("what is held is not dropped", web.held(1), 1);
        for (int r : NO_REPLICAS) {
            Check.due("drop at " + r, web.drop(r), HashLinkedWeb.NONE);
        }
        Check.due("elsewhere still", web.waiting(2), 1);
    }

    private static void waitingCounts() {
        HashLinkedWeb web = new HashLinkedWeb();
        for (int r : NO_REPLICAS) {
            Check.due("waiting at " + r, web.waiting(r), HashLinkedWeb.NONE);
        }
        for (int r = 0; r < 4; r++) {
            for (int i = 0; i < r; i++) {
                waitFor(web, r, i);
            }
        }
        for (int r = 0; r < 4; r++) {
            Check.due("waiting at " + r, web.waiting(r), r);
        }
    }
}
