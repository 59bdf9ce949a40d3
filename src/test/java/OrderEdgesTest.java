import java.util.Arrays;

/** The terms: depth, order, state and heads, and hashes with a sign. */
public final class OrderEdgesTest implements Terms {
    // Two roots on either side of 0.
    private static final long NEGATIVE = -1350209534703076872L;
    private static final long POSITIVE = 6247156896613562849L;

    public static void main(String[] args) {
        Check.edge("Its DEPTH is 1 with no links", OrderEdgesTest::depthOfARoot);
        Check.edge("1 more than the greatest depth of its links", OrderEdgesTest::depthByTheDeepest);
        Check.edge("1 more than the greatest depth of its links", OrderEdgesTest::depthOfForty);
        Check.edge("Hashes are compared as longs with sign", OrderEdgesTest::signInTheOrder);
        Check.edge("Hashes are compared as longs with sign", OrderEdgesTest::signInTheHeads);
        Check.edge("Hashes are compared as longs with sign", OrderEdgesTest::signInTheLinks);
        Check.edge("Hashes are compared as longs with sign", OrderEdgesTest::signInWhatIsWritten);
        Check.edge("Hashes are compared as longs with sign", OrderEdgesTest::signInTheState);
        Check.edge("The ORDER of the operations that a replica holds", OrderEdgesTest::orderOfNothing);
        Check.edge("is by depth, of the same depth by hash", OrderEdgesTest::depthGoesBeforeHash);
        Check.edge("is by depth, of the same depth by hash", OrderEdgesTest::lateOneStandsFirst);
        Check.edge("what comes of all eight keys, 0 at first", OrderEdgesTest::stateOfNothing);
        Check.edge("0 at first", OrderEdgesTest::firstAddIsToZero);
        Check.edge("PUT makes the key's value its value", OrderEdgesTest::putAnything);
        Check.edge("ADD adds its value (wrapping)", OrderEdgesTest::addWraps);
        Check.edge("LOCK and FREE change nothing", OrderEdgesTest::lockAndFreeChangeNothing);
        Check.edge("by its operations in this order", OrderEdgesTest::lateRootIsOverwritten);
        Check.edge("Its HEADS are the operations that it holds", OrderEdgesTest::headsOfNothing);
        Check.edge("links of none that it holds", OrderEdgesTest::whatIsNotHeldTakesNoHead);
        Check.edge("links of none that it holds", OrderEdgesTest::fourHeadsAtOnce);
        Check.edge("links of none that it holds", OrderEdgesTest::linkOfTwo);
        Check.edge("links of none that it holds", OrderEdgesTest::eachHeadByItself);
        Check.finish();
    }

    private static int offer(HashLinkedWeb web, int replica, int author, int kind, int key, int value, long... links) {
        return Offers.offer(web, replica, author, kind, key, value, links);
    }

    private static HashLinkedWeb webOfBothSigns(boolean negativeFirst) {
        HashLinkedWeb web = new HashLinkedWeb();
        for (int turn = 0; turn < 2; turn++) {
            boolean isNegative = turn == 0 == negativeFirst;
            long hash = isNegative ? Offers.letIn(web, 0, 0, PUT, 0, 0) : Offers.letIn(web, 0, 1, PUT, 7, -3);
            Check.due("the hash", hash, isNegative ? NEGATIVE : POSITIVE);
        }
        return web;
    }

    private static void depthOfARoot() {
        HashLinkedWeb web = new HashLinkedWeb();
        for (int i = 0; i < 4; i++) {
            Offers.letIn(web, 0, i, PUT, 0, 0);
        }
        for (int k = 0; k < 4; k++) {
            Check.due("depth", web.about(0, k, 5), 1);
        }
    }

    /** Each of the four links once the deepest, so that it stands at every place among the links. */
    private static void depthByTheDeepest() {
        for (int deep = 0; deep < 4; deep++) {
            HashLinkedWeb web = new HashLinkedWeb();
            long[] links = new long[4];
            for (int i = 0; i < 4; i++) {
                links[i] = Offers.letIn(web, 0, i, PUT, 0, 0);
            }
            links[deep] = Offers.letIn(web, 0, 0, PUT, 0, 1, links[deep]);
            links[deep] = Offers.letIn(web, 0, 0, PUT, 0, 1, links[deep]);
            Offers.letIn(web, 0, 0, PUT, 0, 2, Offers.growing(links));
            Check.due("depth over depths 1, 1, 1 and 3", web.about(0, 6, 5), 4);
        }
    }

    private static void depthOfForty() {
        HashLinkedWeb web = new HashLinkedWeb();
        Offers.fill(web, 0, 40);
        for (int k = 0; k < 40; k++) {
            Check.due("depth of " + k, web.about(0, k, 5), k + 1);
        }
    }

    private static void signInTheOrder() {
        for (int turn = 0; turn < 2; turn++) {
            HashLinkedWeb web = webOfBothSigns(turn == 0);
            Check.due("first", web.hashAt(0, 0), NEGATIVE);
            Check.due("second", web.hashAt(0, 1), POSITIVE);
        }
    }

    private static void signInTheHeads() {
        for (int turn = 0; turn < 2; turn++) {
            HashLinkedWeb web = webOfBothSigns(turn == 0);
            Check.due("first", web.headAt(0, 0), NEGATIVE);
            Check.due("second", web.headAt(0, 1), POSITIVE);
        }
    }

    private static void signInTheLinks() {
        HashLinkedWeb web = webOfBothSigns(true);
        Check.due("falling with sign", offer(web, 0, 0, PUT, 0, 1, POSITIVE, NEGATIVE), WRONG);
        Check.due("growing with sign", offer(web, 0, 0, PUT, 0, 1, NEGATIVE, POSITIVE), LET_IN);
    }

    /** Without sign, the negative one would be among the four greatest. */
    private static void signInWhatIsWritten() {
        HashLinkedWeb web = webOfBothSigns(true);
        int value = 0;
        for (int count = 0; count < 3; value++) {
            if (Hashes.of(2, PUT, 0, value) > 0) {
                Offers.letIn(web, 0, 2, PUT, 0, value);
                count++;
            }
        }
        Check.due("five heads", web.heads(0), 5);
        Check.due("over the four greatest", web.write(0, PUT, 0, 0), LET_IN);
        Check.due("two heads", web.heads(0), 2);
        Check.due("the negative one is a head", web.headAt(0, 0) == NEGATIVE || web.headAt(0, 1) == NEGATIVE, true);
    }

    private static void signInTheState() {
        int ofNegative = valueWithSign(true);
        int ofPositive = valueWithSign(false);
        for (int turn = 0; turn < 2; turn++) {
            HashLinkedWeb web = new HashLinkedWeb();
            Offers.letIn(web, 0, 3, PUT, 1, turn == 0 ? ofNegative : ofPositive);
            Offers.letIn(web, 0, 3, PUT, 1, turn == 0 ? ofPositive : ofNegative);
            Check.due("the PUT of the positive hash is last", web.value(0, 1), ofPositive);
        }
    }

    private static int valueWithSign(boolean isNegative) {
        int value = 1;
        while (Hashes.of(3, PUT, 1, value) < 0 != isNegative) {
            value++;
        }
        return value;
    }

    private static void orderOfNothing() {
        HashLinkedWeb web = new HashLinkedWeb();
        Offers.letIn(web, 1, 0, PUT, 0, 1);
        offer(web, 0, 0, PUT, 0, 1, 5);
        for (int r : new int[] {0, 2, 3}) {
            Check.due("held", web.held(r), 0);
            Check.due("hashAt", web.hashAt(r, 0), 0);
            Check.due("linkAt", web.linkAt(r, 0, 0), 0);
            for (int what = 0; what < 6; what++) {
                Check.due("about " + what, web.about(r, 0, what), NONE);
            }
        }
    }

    /** A row of three, each with a lesser hash than the one below it. */
    private static void depthGoesBeforeHash() {
        HashLinkedWeb web = new HashLinkedWeb();
        long[] row = new long[3];
        row[0] = Offers.letIn(web, 0, 0, PUT, 0, 0);
        for (int i = 1; i < 3; i++) {
            int value = 0;
            while (Hashes.of(0, PUT, 0, value, row[i - 1]) >= row[i - 1]) {
                value++;
            }
            row[i] = Offers.letIn(web, 0, 0, PUT, 0, value, row[i - 1]);
        }
        Check.due("hashes fall", row[0] > row[1] && row[1] > row[2], true);
        for (int k = 0; k < 3; k++) {
            Check.due("at " + k, web.hashAt(0, k), row[k]);
        }
    }

    private static void lateOneStandsFirst() {
        HashLinkedWeb web = new HashLinkedWeb();
        long[] roots = new long[12];
        for (int i = 0; i < 12; i++) {
            roots[i] = Hashes.of(0, PUT, 0, i);
        }
        Arrays.sort(roots);
        int[] values = new int[12];
        for (int i = 0; i < 12; i++) {
            values[Arrays.binarySearch(roots, Hashes.of(0, PUT, 0, i))] = i;
        }
        // From the greatest hash to the least: each stands before all that came.
        for (int place = 11; place >= 0; place--) {
            Offers.letIn(web, 0, 0, PUT, 0, values[place]);
            Check.due("first", web.hashAt(0, 0), roots[place]);
            Check.due("last", web.hashAt(0, 11 - place), roots[11]);
        }
    }

    private static void stateOfNothing() {
        HashLinkedWeb web = new HashLinkedWeb();
        Offers.letIn(web, 1, 0, PUT, 0, 1);
        offer(web, 0, 0, PUT, 0, 1, 5);
        for (int key = 0; key < 8; key++) {
            Check.due("key " + key + " with nothing held", web.value(0, key), 0);
            Check.due("key " + key + " with another set", web.value(1, key), key == 0 ? 1 : 0);
        }
    }

    private static void firstAddIsToZero() {
        HashLinkedWeb web = new HashLinkedWeb();
        for (int key = 0; key < 8; key++) {
            web.write(0, ADD, key, -key);
            Check.due("key " + key, web.value(0, key), -key);
        }
    }

    private static void putAnything() {
        HashLinkedWeb web = new HashLinkedWeb();
        for (int value : new int[] {GREATEST, LEAST, -1, 0, 1}) {
            web.write(0, PUT, 4, value);
            Check.due("value", web.value(0, 4), value);
        }
        Check.due("its neighbours", web.value(0, 3) | web.value(0, 5), 0);
    }

    private static void addWraps() {
        HashLinkedWeb web = new HashLinkedWeb();
        web.write(0, ADD, 0, GREATEST);
        web.write(0, ADD, 0, 1);
        Check.due("one over the greatest", web.value(0, 0), LEAST);
        web.write(0, ADD, 0, -1);
        Check.due("one under the least", web.value(0, 0), GREATEST);
        web.write(0, ADD, 0, GREATEST);
        Check.due("the greatest twice", web.value(0, 0), -2);
        web.write(0, PUT, 0, LEAST);
        web.write(0, ADD, 0, LEAST);
        Check.due("the least twice", web.value(0, 0), 0);
    }

    private static void lockAndFreeChangeNothing() {
        HashLinkedWeb web = new HashLinkedWeb();
        web.write(0, LOCK, 0, 5);
        Check.due("LOCK of 0", web.value(0, 0), 0);
        web.write(0, FREE, 0, 6);
        Check.due("FREE of 0", web.value(0, 0), 0);
        web.write(0, PUT, 0, 9);
        web.write(0, LOCK, 0, 5);
        Check.due("LOCK of 9", web.value(0, 0), 9);
        web.write(0, FREE, 0, 6);
        Check.due("FREE of 9", web.value(0, 0), 9);
    }

    private static void lateRootIsOverwritten() {
        HashLinkedWeb web = new HashLinkedWeb();
        web.write(0, ADD, 0, 5);
        web.write(0, PUT, 0, 9);
        web.write(0, ADD, 0, 1);
        Offers.letIn(web, 0, 1, ADD, 0, 1000);
        Offers.letIn(web, 0, 1, PUT, 0, 2000);
        Check.due("roots that come last", web.value(0, 0), 10);
    }

    private static void headsOfNothing() {
        HashLinkedWeb web = new HashLinkedWeb();
        Offers.letIn(web, 1, 0, PUT, 0, 1);
        offer(web, 0, 0, PUT, 0, 1, 5);
        Check.due("heads", web.heads(0), 0);
        Check.due("headAt", web.headAt(0, 0), 0);
        Check.due("what is written over none", web.write(2, PUT, 0, 1), LET_IN);
        Check.due("has no links", web.about(2, 0, 4), 0);
    }

    private static void whatIsNotHeldTakesNoHead() {
        HashLinkedWeb web = new HashLinkedWeb();
        long lock = Offers.letIn(web, 0, 0, LOCK, 0, 1);
        web.meet(0, 1);
        Check.due("one that waits over it", offer(web, 0, 0, PUT, 1, 1, Offers.growing(lock, 5)), WAITS);
        Check.due("one that is wrong over it", offer(web, 0, 1, PUT, 0, 1, lock), WRONG);
        Check.due("one over it elsewhere", offer(web, 1, 0, PUT, 0, 1, lock), LET_IN);
        Check.due("heads here", web.heads(0), 1);
        Check.due("it is the head here", web.headAt(0, 0), lock);
        Check.due("heads there", web.heads(1), 1);
        Check.due("it is no head there", web.headAt(1, 0), Hashes.of(0, PUT, 0, 1, lock));
    }

    private static void fourHeadsAtOnce() {
        HashLinkedWeb web = new HashLinkedWeb();
        for (int i = 0; i < 4; i++) {
            Offers.letIn(web, 0, i, PUT, 0, i);
            Check.due("heads", web.heads(0), i + 1);
        }
        web.write(0, PUT, 0, 9);
        Check.due("heads", web.heads(0), 1);
        Check.due("headAt 1", web.headAt(0, 1), 0);
    }

    private static void linkOfTwo() {
        HashLinkedWeb web = new HashLinkedWeb();
        long root = Offers.letIn(web, 0, 0, PUT, 0, 0);
        long left = Offers.letIn(web, 0, 0, PUT, 0, 1, root);
        long right = Offers.letIn(web, 0, 0, PUT, 0, 2, root);
        Check.due("heads", web.heads(0), 2);
        long[] due = Offers.growing(left, right);
        Check.due("headAt 0", web.headAt(0, 0), due[0]);
        Check.due("headAt 1", web.headAt(0, 1), due[1]);
    }

    /** Of five heads one is taken, at each place once; the other four stay as they stand. */
    private static void eachHeadByItself() {
        for (int taken = 0; taken < 5; taken++) {
            HashLinkedWeb web = new HashLinkedWeb();
            long[] heads = new long[5];
            for (int i = 0; i < 5; i++) {
                heads[i] = Offers.letIn(web, 0, 0, PUT, 0, i);
            }
            heads = Offers.growing(heads);
            heads[taken] = Offers.letIn(web, 0, 0, PUT, 0, 9, heads[taken]);
            heads = Offers.growing(heads);
            Check.due("heads", web.heads(0), 5);
            for (int k = 0; k < 5; k++) {
                Check.due("head " + k, web.headAt(0, k), heads[k]);
            }
        }
    }
}
