import java.util.Arrays;

/** Promises 9 and 11 to 18: held, has, hashAt, about, linkAt, heads, headAt, value, all. */
public final class ReadingTest {
    private static final int PUT = 0;
    private static final int ADD = 1;
    private static final int LOCK = 2;
    private static final int FREE = 3;
    private static final int[] NO_REPLICAS = {-1, 4, 5, Integer.MIN_VALUE, Integer.MAX_VALUE};
    private static final int[] NO_INDEXES = {-1, Integer.MIN_VALUE, Integer.MAX_VALUE};

    public static void main(String[] args) {
        heldCounts();
        hasAsksOneReplica();
        orderIsByDepthThenHash();
        aboutTellsTheNumbers();
        linkAtTellsTheLinks();
        headsAreLinksOfNone();
        headsStandByHash();
        valueGoesByTheOrder();
        valueWraps();
        valueOfNothing();
        allCountsDifferentOnes();
        noSuchReplica();
        readingChangesNothing();
        Check.finish();
    }

    private static void heldCounts() {
        HashLinkedWeb web = new HashLinkedWeb();
        for (int i = 1; i <= 10; i++) {
            web.write(0, ADD, 0, 1);
            Check.due("held after " + i, web.held(0), i);
        }
        web.write(0, 4, 0, 1);
        Offers.offer(web, 0, 0, PUT, 0, 0, 77);
        Check.due("held: not what is wrong or waits", web.held(0), 10);
        Check.due("held elsewhere", web.held(1), 0);
    }

    private static void hasAsksOneReplica() {
        HashLinkedWeb web = new HashLinkedWeb();
        web.write(0, PUT, 0, 1);
        long hash = Hashes.of(0, PUT, 0, 1);
        Check.due("has", web.has(0, hash), true);
        Check.due("has elsewhere", web.has(1, hash), false);
        Check.due("has another one", web.has(0, hash + 1), false);
        Check.due("has 0", web.has(0, 0), false);
        for (int r : NO_REPLICAS) {
            Check.due("has at " + r, web.has(r, hash), false);
            Check.due("has 0 at " + r, web.has(r, 0), false);
        }
    }

    private static void orderIsByDepthThenHash() {
        HashLinkedWeb web = new HashLinkedWeb();
        long[] roots = new long[6];
        long[] seconds = new long[6];
        for (int i = 0; i < 6; i++) {
            roots[i] = Hashes.of(i % 4, PUT, i, i);
            seconds[i] = Hashes.of(i % 4, ADD, i, i, roots[i]);
            Offers.offer(web, 0, i % 4, PUT, i, i);
            Offers.offer(web, 0, i % 4, ADD, i, i, roots[i]);
        }
        Arrays.sort(roots);
        Arrays.sort(seconds);
        Check.due("with hashes on both sides of 0", roots[0] < 0 && roots[5] > 0, true);
        for (int k = 0; k < 6; k++) {
            Check.due("hashAt " + k, web.hashAt(0, k), roots[k]);
            Check.due("hashAt " + (k + 6), web.hashAt(0, k + 6), seconds[k]);
            Check.due("depth of " + k, web.about(0, k, 5), 1);
            Check.due("depth of " + (k + 6), web.about(0, k + 6, 5), 2);
        }
        Check.due("hashAt behind the last", web.hashAt(0, 12), 0);
        for (int k : NO_INDEXES) {
            Check.due("hashAt " + k, web.hashAt(0, k), 0);
        }
    }

    private static void aboutTellsTheNumbers() {
        HashLinkedWeb web = new HashLinkedWeb();
        Offers.offer(web, 2, 3, LOCK, 5, Integer.MIN_VALUE);
        long lock = web.draftHash();
        Offers.offer(web, 2, 3, FREE, 5, -7, lock);
        int[][] due = {{3, LOCK, 5, Integer.MIN_VALUE, 0, 1}, {3, FREE, 5, -7, 1, 2}};
        for (int k = 0; k < 2; k++) {
            for (int what = 0; what < 6; what++) {
                Check.due("about " + k + ", " + what, web.about(2, k, what), due[k][what]);
            }
            for (int what : new int[] {-1, 6, 7, Integer.MIN_VALUE, Integer.MAX_VALUE}) {
                Check.due("about " + k + ", " + what, web.about(2, k, what), HashLinkedWeb.NONE);
            }
        }
        for (int what = 0; what < 6; what++) {
            Check.due("about behind the last", web.about(2, 2, what), HashLinkedWeb.NONE);
            for (int k : NO_INDEXES) {
                Check.due("about " + k, web.about(2, k, what), HashLinkedWeb.NONE);
            }
        }
        depthGoesByTheDeepestLink();
    }

    private static void depthGoesByTheDeepestLink() {
        HashLinkedWeb web = new HashLinkedWeb();
        web.write(0, PUT, 0, 1);
        web.write(0, PUT, 0, 2);
        web.write(0, PUT, 0, 3);
        Offers.offer(web, 0, 1, PUT, 0, 4);
        web.write(0, PUT, 0, 5);
        Check.due("two links", web.about(0, 4, 4), 2);
        Check.due("depth", web.about(0, 4, 5), 4);
        Offers.offer(web, 0, 1, PUT, 0, 6, Hashes.of(1, PUT, 0, 4));
        Check.due("one of depth 2 stands third or fourth", web.about(0, 2, 5), 2);
        Check.due("and the other one", web.about(0, 3, 5), 2);
    }

    private static void linkAtTellsTheLinks() {
        HashLinkedWeb web = new HashLinkedWeb();
        long[] roots = new long[4];
        for (int i = 0; i < 4; i++) {
            Offers.offer(web, 3, 0, PUT, i, 0);
            roots[i] = web.draftHash();
        }
        Arrays.sort(roots);
        Check.due("over four", Offers.offer(web, 3, 1, ADD, 0, 1, roots), HashLinkedWeb.LET_IN);
        for (int j = 0; j < 4; j++) {
            Check.due("link " + j, web.linkAt(3, 4, j), roots[j]);
            Check.due("a root has none", web.linkAt(3, 0, j), 0);
            Check.due("behind the last", web.linkAt(3, 5, j), 0);
        }
        for (int j : new int[] {-1, 4, 5, Integer.MIN_VALUE, Integer.MAX_VALUE}) {
            Check.due("link " + j, web.linkAt(3, 4, j), 0);
        }
        for (int k : NO_INDEXES) {
            Check.due("linkAt " + k, web.linkAt(3, k, 0), 0);
        }
    }

    private static void headsAreLinksOfNone() {
        HashLinkedWeb web = new HashLinkedWeb();
        web.write(0, PUT, 0, 1);
        long root = web.headAt(0, 0);
        Check.due("one head", web.heads(0), 1);
        for (int i = 1; i <= 3; i++) {
            Offers.offer(web, 0, 0, PUT, 0, i + 1, root);
            Check.due("heads over the root", web.heads(0), i);
        }
        Offers.offer(web, 0, 0, PUT, 7, 0);
        Check.due("a root beside", web.heads(0), 4);
        Offers.offer(web, 0, 0, PUT, 7, 9, 123);
        Check.due("what waits is no head", web.heads(0), 4);
        web.write(0, PUT, 0, 9);
        Check.due("one over all", web.heads(0), 1);
        Check.due("heads elsewhere", web.heads(1), 0);
        headsAreOneReplicasOwn();
    }

    /** What is a link of something held elsewhere only is a head here. */
    private static void headsAreOneReplicasOwn() {
        HashLinkedWeb web = new HashLinkedWeb();
        web.write(0, PUT, 0, 1);
        web.meet(0, 1);
        long root = web.headAt(0, 0);
        web.write(0, PUT, 0, 2);
        Check.due("head at 1", web.headAt(1, 0), root);
        Check.due("head at 0", web.headAt(0, 0) != root, true);
    }

    private static void headsStandByHash() {
        HashLinkedWeb web = new HashLinkedWeb();
        long[] heads = new long[6];
        for (int i = 0; i < 6; i++) {
            Offers.offer(web, 2, 1, ADD, i, i);
            heads[i] = web.draftHash();
        }
        // A deep head stands among the others by its hash alone.
        Offers.offer(web, 2, 1, ADD, 0, 99, heads[0]);
        heads[0] = web.draftHash();
        Arrays.sort(heads);
        for (int k = 0; k < 6; k++) {
            Check.due("headAt " + k, web.headAt(2, k), heads[k]);
        }
        Check.due("headAt behind the last", web.headAt(2, 6), 0);
        for (int k : NO_INDEXES) {
            Check.due("headAt " + k, web.headAt(2, k), 0);
        }
    }

    private static void valueGoesByTheOrder() {
        HashLinkedWeb web = new HashLinkedWeb();
        web.write(0, ADD, 2, 5);
        web.write(0, ADD, 2, 6);
        Check.due("adds", web.value(0, 2), 11);
        web.write(0, LOCK, 2, 100);
        web.write(0, FREE, 2, 100);
        Check.due("lock and free change nothing", web.value(0, 2), 11);
        web.write(0, PUT, 2, -3);
        Check.due("put", web.value(0, 2), -3);
        Check.due("a root that comes late", Offers.offer(web, 0, 1, PUT, 2, 70), HashLinkedWeb.LET_IN);
        Check.due("is not the last in order", web.value(0, 2), -3);
        web.write(0, ADD, 2, 1);
        Check.due("add to put", web.value(0, 2), -2);
        Check.due("other keys", web.value(0, 1) | web.value(0, 3), 0);
        Check.due("other replicas", web.value(1, 2), 0);
        sameDepthGoesByHash();
    }

    private static void sameDepthGoesByHash() {
        for (int turn = 0; turn < 2; turn++) {
            HashLinkedWeb web = new HashLinkedWeb();
            Offers.offer(web, 0, 0, PUT, 4, turn == 0 ? 10 : 20);
            Offers.offer(web, 0, 0, PUT, 4, turn == 0 ? 20 : 10);
            int last = Hashes.of(0, PUT, 4, 10) > Hashes.of(0, PUT, 4, 20) ? 10 : 20;
            Check.due("the greater hash is last", web.value(0, 4), last);
        }
    }

    private static void valueWraps() {
        HashLinkedWeb web = new HashLinkedWeb();
        web.write(0, PUT, 0, Integer.MAX_VALUE);
        web.write(0, ADD, 0, 1);
        Check.due("wrapping up", web.value(0, 0), Integer.MIN_VALUE);
        web.write(0, ADD, 0, Integer.MIN_VALUE);
        Check.due("wrapping round", web.value(0, 0), 0);
        web.write(0, ADD, 0, -1);
        Check.due("below", web.value(0, 0), -1);
    }

    private static void valueOfNothing() {
        HashLinkedWeb web = new HashLinkedWeb();
        for (int key = 0; key < 8; key++) {
            web.write(0, PUT, key, key + 1);
        }
        for (int key = 0; key < 8; key++) {
            Check.due("key " + key, web.value(0, key), key + 1);
        }
        for (int key : new int[] {-1, 8, 9, Integer.MIN_VALUE, Integer.MAX_VALUE}) {
            Check.due("key " + key, web.value(0, key), 0);
        }
        for (int r : NO_REPLICAS) {
            Check.due("value at " + r, web.value(r, 0), 0);
            Check.due("value at " + r + " of no key", web.value(r, 8), 0);
        }
    }

    private static void allCountsDifferentOnes() {
        HashLinkedWeb web = new HashLinkedWeb();
        web.write(0, PUT, 0, 1);
        web.write(1, PUT, 0, 1);
        Check.due("two of two authors", web.all(), 2);
        web.meet(0, 1);
        Check.due("a meeting makes none", web.all(), 2);
        Offers.offer(web, 3, 0, PUT, 0, 1);
        Check.due("the same one elsewhere", web.all(), 2);
        Offers.offer(web, 3, 0, PUT, 0, 1, 55);
        Check.due("what waits was not let in", web.all(), 2);
        web.write(3, PUT, 9, 1);
        Check.due("nor what is wrong", web.all(), 2);
        web.drop(3);
        Check.due("dropping takes none away", web.all(), 2);
    }

    private static void noSuchReplica() {
        HashLinkedWeb web = new HashLinkedWeb();
        for (int r = 0; r < 4; r++) {
            web.write(r, PUT, 0, 1);
        }
        for (int r : NO_REPLICAS) {
            Check.due("held at " + r, web.held(r), HashLinkedWeb.NONE);
            Check.due("heads at " + r, web.heads(r), HashLinkedWeb.NONE);
            Check.due("about at " + r, web.about(r, 0, 0), HashLinkedWeb.NONE);
            // There is no operation and no head there, and these say 0 of that.
            Check.due("hashAt at " + r, web.hashAt(r, 0), 0);
            Check.due("linkAt at " + r, web.linkAt(r, 0, 0), 0);
            Check.due("headAt at " + r, web.headAt(r, 0), 0);
        }
    }

    private static void readingChangesNothing() {
        HashLinkedWeb web = new HashLinkedWeb();
        web.write(0, ADD, 0, 1);
        web.write(0, ADD, 0, 2);
        long hash = web.hashAt(0, 1);
        for (int i = 0; i < 3; i++) {
            Check.due("held", web.held(0), 2);
            Check.due("hashAt", web.hashAt(0, 1), hash);
            Check.due("headAt", web.headAt(0, 0), hash);
            Check.due("linkAt", web.linkAt(0, 1, 0), web.hashAt(0, 0));
            Check.due("value", web.value(0, 0), 3);
            Check.due("all", web.all(), 2);
            Check.due("waiting", web.waiting(0), 0);
            Check.due("has", web.has(0, hash), true);
        }
    }
}
