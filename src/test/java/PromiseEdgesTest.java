/** The boundary cases under 'Promise 1' to 'Promise 18', and the 512th call. */
public final class PromiseEdgesTest implements Terms {
    private static final int[] NO_PLACES = {-1, LEAST, GREATEST};

    public static void main(String[] args) {
        Check.edge("No operations anywhere", PromiseEdgesTest::noOperationsAnywhere);
        Check.edge("the draft has author, kind, key and value 0 and no links", PromiseEdgesTest::firstDraft);
        Check.edge("that has all heads as links", PromiseEdgesTest::writeOverUpToFourHeads);
        Check.edge("(the 4 with the greatest hashes, if there are more)", PromiseEdgesTest::writeOverMoreHeads);
        Check.edge("Answers LET_IN, HELD, WRONG", PromiseEdgesTest::writeLetIn);
        Check.edge("Answers LET_IN, HELD, WRONG", PromiseEdgesTest::writeWrong);
        Check.edge("An operation of the replica (its author)", PromiseEdgesTest::writeIsOfTheReplica);
        Check.edge("NONE when there is no such replica", PromiseEdgesTest::writeAtNone);
        Check.edge("The draft gets these, and no links", PromiseEdgesTest::draftAfterFourLinks);
        Check.edge("The draft gets a link more, behind the others", PromiseEdgesTest::linkAnything);
        Check.edge("Refused (false) when it has 4", PromiseEdgesTest::fifthLink);
        Check.edge("The draft's hash", PromiseEdgesTest::hashOfTheDraft);
        Check.edge("The draft, as an operation, comes to the replica", PromiseEdgesTest::offerKeepsTheDraft);
        Check.edge("Answers HELD, LET_IN, WAITS or WRONG", PromiseEdgesTest::offerAnswers);
        Check.edge("NONE when there is no such replica", PromiseEdgesTest::offerAtNone);
        Check.edge("NONE when there is no such replica, or they are the same one", PromiseEdgesTest::meetOfNone);
        Check.edge("NONE when there is no such replica, or they are the same one", PromiseEdgesTest::meetItself);
        Check.edge("What waits at the replica waits no longer", PromiseEdgesTest::dropNoneToFive);
        Check.edge("NONE when there is no such replica", PromiseEdgesTest::dropAtNone);
        Check.edge("How many operations the replica holds", PromiseEdgesTest::heldNoneToForty);
        Check.edge("NONE when there is no such replica (so also for the following ones)", PromiseEdgesTest::readAtNone);
        Check.edge("How many wait at it", PromiseEdgesTest::waitingNoneToFive);
        Check.edge("Whether it holds the operation with a hash", PromiseEdgesTest::hasOrNot);
        Check.edge("false also when there is no such replica", PromiseEdgesTest::hasAtNone);
        Check.edge("The hash of operation k, from 0, of its order; 0 when there is none", PromiseEdgesTest::hashAtEnds);
        Check.edge("its author for what = 0, kind for 1, key for 2, value for 3, the number of its links for 4, "
            + "its depth for 5", PromiseEdgesTest::aboutEach);
        Check.edge("NONE when there is no such operation", PromiseEdgesTest::aboutNoOperation);
        Check.edge("or what is not 0 .. 5", PromiseEdgesTest::aboutNothing);
        Check.edge("Link j of operation k of its order; 0 when there is none", PromiseEdgesTest::linkAtEnds);
        Check.edge("How many heads it has", PromiseEdgesTest::headsNoneToForty);
        Check.edge("The hash of head k, from 0, heads in the order of their hashes; 0 when there is none",
            PromiseEdgesTest::headAtEnds);
        Check.edge("0 when there is no such replica or key", PromiseEdgesTest::valueOfNoKey);
        Check.edge("0 when there is no such replica or key", PromiseEdgesTest::valueAtNone);
        Check.edge("How many different operations were let in by all replicas together",
            PromiseEdgesTest::allNoneToForty);
        Check.edge("An object is used for at most 512 calls", PromiseEdgesTest::call512);
        Check.finish();
    }

    private static int offer(HashLinkedWeb web, int replica, int author, int kind, int key, int value, long... links) {
        return Offers.offer(web, replica, author, kind, key, value, links);
    }

    /** A web where each replica holds something, with one that waits. */
    private static HashLinkedWeb someWeb() {
        HashLinkedWeb web = new HashLinkedWeb();
        for (int r = 0; r < 4; r++) {
            Check.due("one at " + r, web.write(r, PUT, r, 5), LET_IN);
        }
        Check.due("one that waits", offer(web, 1, 2, PUT, 0, 0, 77), WAITS);
        return web;
    }

    private static void noOperationsAnywhere() {
        HashLinkedWeb web = new HashLinkedWeb();
        Check.due("all", web.all(), 0);
        for (int r = 0; r < 4; r++) {
            Check.due("held", web.held(r), 0);
            Check.due("waiting", web.waiting(r), 0);
            Check.due("heads", web.heads(r), 0);
            Check.due("has 0", web.has(r, 0), false);
            Check.due("has the first draft", web.has(r, Hashes.of(0, 0, 0, 0)), false);
        }
    }

    private static void firstDraft() {
        HashLinkedWeb web = new HashLinkedWeb();
        Check.due("draftHash", web.draftHash(), -1350209534703076872L);
        Check.due("offer", web.offer(0), LET_IN);
        for (int what = 0; what < 5; what++) {
            Check.due("about " + what, web.about(0, 0, what), 0);
        }
        for (int i = 1; i <= 5; i++) {
            Check.due("link " + i, web.link(i), i <= 4);
        }
    }

    private static void writeOverUpToFourHeads() {
        for (int count = 0; count <= 4; count++) {
            HashLinkedWeb web = new HashLinkedWeb();
            long[] heads = new long[count];
            for (int i = 0; i < count; i++) {
                heads[i] = Offers.letIn(web, 2, i, PUT, 0, 1);
            }
            Check.due("over " + count, web.write(2, ADD, 0, 1), LET_IN);
            Check.due("links", web.about(2, count, 4), count);
            Check.due("with all of them", web.has(2, Hashes.of(2, ADD, 0, 1, Offers.growing(heads))), true);
            Check.due("one head is left", web.heads(2), 1);
        }
    }

    private static void writeOverMoreHeads() {
        for (int count = 5; count <= 39; count += 17) {
            HashLinkedWeb web = new HashLinkedWeb();
            long[] heads = new long[count];
            for (int i = 0; i < count; i++) {
                heads[i] = Offers.letIn(web, 2, 0, PUT, 0, i);
            }
            heads = Offers.growing(heads);
            Check.due("over " + count, web.write(2, ADD, 0, 1), LET_IN);
            for (int j = 0; j < 4; j++) {
                Check.due("link " + j, web.linkAt(2, count, j), heads[count - 4 + j]);
            }
            Check.due("a fifth link", web.linkAt(2, count, 4), 0);
            Check.due("heads that are left", web.heads(2), count - 3);
        }
    }

    private static void writeLetIn() {
        HashLinkedWeb web = new HashLinkedWeb();
        Check.due("a new one", web.write(0, PUT, 0, 1), LET_IN);
        Check.due("the same numbers, over it", web.write(0, PUT, 0, 1), LET_IN);
        Offers.letIn(web, 1, 2, PUT, 0, 1);
        Check.due("one that was let in elsewhere", web.write(2, PUT, 0, 1), LET_IN);
        Check.due("three in all", web.all(), 3);
    }

    private static void writeWrong() {
        HashLinkedWeb web = new HashLinkedWeb();
        Offers.letIn(web, 0, 1, LOCK, 2, 0);
        String before = Readings.of(web);
        for (int kind : NO_KINDS) {
            Check.due("kind " + kind, web.write(0, kind, 0, 1), WRONG);
        }
        for (int key : NO_KEYS) {
            Check.due("key " + key, web.write(0, PUT, key, 1), WRONG);
        }
        for (int kind = PUT; kind <= FREE; kind++) {
            Check.due("locked out with kind " + kind, web.write(0, kind, 2, 1), WRONG);
        }
        Check.due("nothing happened", before.equals(Readings.of(web)), true);
    }

    private static void writeIsOfTheReplica() {
        HashLinkedWeb web = new HashLinkedWeb();
        for (int r = 0; r < 4; r++) {
            web.write(r, PUT, 0, 1);
            Check.due("author at " + r, web.about(r, 0, 0), r);
        }
    }

    private static void writeAtNone() {
        HashLinkedWeb web = someWeb();
        String before = Readings.of(web);
        for (int r : NO_REPLICAS) {
            Check.due("write at " + r, web.write(r, PUT, 0, 1), NONE);
            Check.due("write out of shape at " + r, web.write(r, 4, 8, 1), NONE);
        }
        Check.due("nothing happened", before.equals(Readings.of(web)), true);
    }

    private static void draftAfterFourLinks() {
        HashLinkedWeb web = new HashLinkedWeb();
        Offers.draft(web, 1, 2, 3, 4, 5, 6, 7, 8);
        web.draft(0, 0, 0, 0);
        Check.due("no links", web.draftHash(), -1350209534703076872L);
        for (int i = 1; i <= 5; i++) {
            Check.due("link " + i, web.link(i), i <= 4);
        }
        web.draft(LEAST, LEAST, LEAST, LEAST);
        Check.due("any ints", web.draftHash(), -5535980866873060890L);
        Check.due("nothing came", web.all(), 0);
    }

    private static void linkAnything() {
        HashLinkedWeb web = new HashLinkedWeb();
        Check.due("the least", web.link(Long.MIN_VALUE), true);
        Check.due("the greatest", web.link(Long.MAX_VALUE), true);
        Check.due("0", web.link(0), true);
        Check.due("0 again", web.link(0), true);
        Check.due("draftHash", web.draftHash(), Hashes.of(0, 0, 0, 0, Long.MIN_VALUE, Long.MAX_VALUE, 0, 0));
        Check.due("is not in shape", web.offer(0), WRONG);
    }

    private static void fifthLink() {
        HashLinkedWeb web = new HashLinkedWeb();
        for (int i = 1; i <= 4; i++) {
            Check.due("link " + i, web.link(i), true);
        }
        long before = web.draftHash();
        for (long link : new long[] {5, 4, 0, Long.MIN_VALUE, Long.MAX_VALUE}) {
            Check.due("a fifth", web.link(link), false);
            Check.due("draftHash", web.draftHash(), before);
        }
        Check.due("four links", before, Hashes.of(0, 0, 0, 0, 1, 2, 3, 4));
    }

    private static void hashOfTheDraft() {
        HashLinkedWeb web = new HashLinkedWeb();
        Check.due("of a new object", web.draftHash(), -1350209534703076872L);
        web.draft(3, 2, 6, -5);
        Check.due("without links", web.draftHash(), 8662803914322417366L);
        web.link(Long.MIN_VALUE);
        Check.due("with one", web.draftHash(), -3100629118528215878L);
        web.write(0, PUT, 0, 1);
        web.offer(0);
        web.meet(0, 1);
        web.drop(0);
        Check.due("after other calls", web.draftHash(), -3100629118528215878L);
    }

    private static void offerKeepsTheDraft() {
        HashLinkedWeb web = new HashLinkedWeb();
        web.draft(3, PUT, 6, -5);
        for (int r = 0; r < 4; r++) {
            Check.due("offer to " + r, web.offer(r), LET_IN);
            Check.due("draftHash", web.draftHash(), Hashes.of(3, PUT, 6, -5));
        }
        long below = web.draftHash();
        Check.due("a link more", web.link(below), true);
        Check.due("it is another one", web.offer(0), LET_IN);
        Check.due("two in all", web.all(), 2);
        Check.due("the one that was let in has no links", web.about(0, 0, 4), 0);
        Check.due("the other one has one", web.about(0, 1, 4), 1);
    }

    private static void offerAnswers() {
        HashLinkedWeb web = new HashLinkedWeb();
        Check.due("LET_IN", web.offer(0), LET_IN);
        Check.due("HELD", web.offer(0), HELD);
        web.link(77);
        Check.due("WAITS", web.offer(0), WAITS);
        Check.due("WAITS again", web.offer(0), WAITS);
        web.link(77);
        Check.due("WRONG", web.offer(0), WRONG);
    }

    private static void offerAtNone() {
        HashLinkedWeb web = someWeb();
        web.draft(0, ADD, 0, 1);
        String before = Readings.of(web);
        for (int r : NO_REPLICAS) {
            Check.due("offer to " + r, web.offer(r), NONE);
        }
        Check.due("nothing happened", before.equals(Readings.of(web)), true);
    }

    private static void meetOfNone() {
        HashLinkedWeb web = someWeb();
        String before = Readings.of(web);
        for (int r : NO_REPLICAS) {
            for (int other = 0; other < 4; other++) {
                Check.due("meet(" + r + ", " + other + ")", web.meet(r, other), NONE);
                Check.due("meet(" + other + ", " + r + ")", web.meet(other, r), NONE);
            }
            for (int other : NO_REPLICAS) {
                Check.due("meet(" + r + ", " + other + ")", web.meet(r, other), NONE);
            }
        }
        Check.due("nothing happened", before.equals(Readings.of(web)), true);
    }

    private static void meetItself() {
        HashLinkedWeb web = someWeb();
        String before = Readings.of(web);
        for (int r = 0; r < 4; r++) {
            Check.due("meet(" + r + ", " + r + ")", web.meet(r, r), NONE);
        }
        Check.due("nothing happened", before.equals(Readings.of(web)), true);
    }

    private static void dropNoneToFive() {
        for (int count = 0; count <= 7; count++) {
            HashLinkedWeb web = new HashLinkedWeb();
            long root = Hashes.of(3, PUT, 0, 9);
            for (int i = 0; i < count; i++) {
                Check.due("one that waits", offer(web, 2, 0, PUT, 0, i, root), WAITS);
            }
            Check.due("drop after " + count, web.drop(2), Math.min(5, count));
            Check.due("drop again", web.drop(2), 0);
            Check.due("waiting", web.waiting(2), 0);
            Check.due("what they waited for", offer(web, 2, 3, PUT, 0, 9), LET_IN);
            Check.due("held", web.held(2), 1);
        }
    }

    private static void dropAtNone() {
        HashLinkedWeb web = someWeb();
        String before = Readings.of(web);
        for (int r : NO_REPLICAS) {
            Check.due("drop at " + r, web.drop(r), NONE);
        }
        for (int r : new int[] {0, 2, 3}) {
            Check.due("drop at " + r + ", where none waits", web.drop(r), 0);
        }
        Check.due("nothing happened", before.equals(Readings.of(web)), true);
        Check.due("drop at 1", web.drop(1), 1);
        Check.due("what is held there stays", web.held(1), 1);
    }

    private static void heldNoneToForty() {
        HashLinkedWeb web = new HashLinkedWeb();
        for (int count = 0; count <= 41; count++) {
            Check.due("held", web.held(3), Math.min(40, count));
            web.write(3, PUT, 0, 1);
        }
    }

    /** hashAt, linkAt and headAt say of what is not there that it is 0: so where no replica is, too. */
    private static void readAtNone() {
        HashLinkedWeb web = someWeb();
        for (int r : NO_REPLICAS) {
            Check.due("held at " + r, web.held(r), NONE);
            Check.due("waiting at " + r, web.waiting(r), NONE);
            Check.due("heads at " + r, web.heads(r), NONE);
            for (int what = -1; what <= 6; what++) {
                Check.due("about at " + r, web.about(r, 0, what), NONE);
            }
            Check.due("hashAt at " + r, web.hashAt(r, 0), 0);
            Check.due("linkAt at " + r, web.linkAt(r, 0, 0), 0);
            Check.due("headAt at " + r, web.headAt(r, 0), 0);
        }
    }

    private static void waitingNoneToFive() {
        HashLinkedWeb web = new HashLinkedWeb();
        for (int count = 0; count <= 7; count++) {
            Check.due("waiting", web.waiting(3), Math.min(5, count));
            offer(web, 3, 0, PUT, 0, count, 77);
        }
        Check.due("elsewhere", web.waiting(0) + web.waiting(1) + web.waiting(2), 0);
    }

    private static void hasOrNot() {
        HashLinkedWeb web = someWeb();
        long ofTheFirst = Hashes.of(0, PUT, 0, 5);
        Check.due("what it holds", web.has(0, ofTheFirst), true);
        Check.due("what another one holds", web.has(1, ofTheFirst), false);
        Check.due("what waits at it", web.has(1, Hashes.of(2, PUT, 0, 0, 77)), false);
        Check.due("the link of what waits", web.has(1, 77), false);
        for (long hash : new long[] {0, 1, -1, Long.MIN_VALUE, Long.MAX_VALUE, ofTheFirst - 1, ofTheFirst + 1}) {
            Check.due("has " + hash, web.has(0, hash), false);
        }
    }

    private static void hasAtNone() {
        HashLinkedWeb web = someWeb();
        for (int r : NO_REPLICAS) {
            for (int author = 0; author < 4; author++) {
                Check.due("has at " + r, web.has(r, Hashes.of(author, PUT, author, 5)), false);
            }
            Check.due("has 0 at " + r, web.has(r, 0), false);
        }
    }

    private static void hashAtEnds() {
        HashLinkedWeb web = new HashLinkedWeb();
        Check.due("of nothing", web.hashAt(1, 0), 0);
        long top = Offers.letIn(web, 1, 0, PUT, 0, 0);
        Check.due("of one, at 0", web.hashAt(1, 0), top);
        Check.due("of one, at 1", web.hashAt(1, 1), 0);
        for (int i = 1; i < 40; i++) {
            top = Offers.letIn(web, 1, 0, PUT, 0, i, top);
        }
        Check.due("of forty, at 0", web.hashAt(1, 0), Hashes.of(0, PUT, 0, 0));
        Check.due("of forty, at 39", web.hashAt(1, 39), top);
        Check.due("of forty, at 40", web.hashAt(1, 40), 0);
        for (int k : NO_PLACES) {
            Check.due("at " + k, web.hashAt(1, k), 0);
        }
    }

    private static void aboutEach() {
        HashLinkedWeb web = new HashLinkedWeb();
        long root = Offers.letIn(web, 1, 3, FREE, 7, GREATEST);
        Offers.letIn(web, 1, 2, LOCK, 6, LEAST, root);
        int[][] due = {{3, FREE, 7, GREATEST, 0, 1}, {2, LOCK, 6, LEAST, 1, 2}};
        for (int k = 0; k < 2; k++) {
            for (int what = 0; what <= 5; what++) {
                Check.due("about " + k + ", " + what, web.about(1, k, what), due[k][what]);
            }
        }
        Check.due("a value as NONE", offer(web, 0, 1, ADD, 1, -1), LET_IN);
        Check.due("about 0, 3", web.about(0, 0, 3), -1);
    }

    private static void aboutNoOperation() {
        HashLinkedWeb web = someWeb();
        for (int what = 0; what <= 5; what++) {
            Check.due("behind the last", web.about(0, 1, what), NONE);
            for (int k : NO_PLACES) {
                Check.due("at " + k, web.about(0, k, what), NONE);
            }
        }
        Check.due("not what waits", web.about(1, 1, 0), NONE);
    }

    private static void aboutNothing() {
        HashLinkedWeb web = someWeb();
        for (int what : new int[] {-1, 6, LEAST, GREATEST}) {
            Check.due("what " + what, web.about(3, 0, what), NONE);
            Check.due("what " + what + " of no operation", web.about(3, 1, what), NONE);
        }
    }

    private static void linkAtEnds() {
        HashLinkedWeb web = new HashLinkedWeb();
        long[] roots = new long[4];
        for (int i = 0; i < 4; i++) {
            roots[i] = Offers.letIn(web, 1, i, PUT, 0, 0);
        }
        roots = Offers.growing(roots);
        Offers.letIn(web, 1, 0, PUT, 0, 1, roots);
        for (int j = 0; j < 4; j++) {
            Check.due("link " + j, web.linkAt(1, 4, j), roots[j]);
            Check.due("link " + j + " of one with none", web.linkAt(1, 3, j), 0);
            Check.due("link " + j + " of no operation", web.linkAt(1, 5, j), 0);
        }
        Check.due("link 4", web.linkAt(1, 4, 4), 0);
        for (int place : NO_PLACES) {
            Check.due("link " + place, web.linkAt(1, 4, place), 0);
            Check.due("link 0 at " + place, web.linkAt(1, place, 0), 0);
        }
        long head = Offers.letIn(web, 2, 0, PUT, 0, 0);
        Offers.letIn(web, 2, 0, PUT, 0, 5, head);
        Check.due("link 0 of one", web.linkAt(2, 1, 0), head);
        Check.due("link 1 of one", web.linkAt(2, 1, 1), 0);
    }

    private static void headsNoneToForty() {
        HashLinkedWeb web = new HashLinkedWeb();
        for (int count = 0; count <= 41; count++) {
            Check.due("heads", web.heads(2), Math.min(40, count));
            offer(web, 2, 0, PUT, 0, count);
        }
        Check.due("elsewhere", web.heads(0), 0);
    }

    private static void headAtEnds() {
        HashLinkedWeb web = new HashLinkedWeb();
        Check.due("of none", web.headAt(2, 0), 0);
        long[] heads = new long[40];
        for (int i = 0; i < 40; i++) {
            heads[i] = Offers.letIn(web, 2, 0, PUT, 0, i);
        }
        heads = Offers.growing(heads);
        for (int k = 0; k < 40; k++) {
            Check.due("at " + k, web.headAt(2, k), heads[k]);
        }
        Check.due("at 40", web.headAt(2, 40), 0);
        for (int k : NO_PLACES) {
            Check.due("at " + k, web.headAt(2, k), 0);
        }
    }

    private static void valueOfNoKey() {
        HashLinkedWeb web = new HashLinkedWeb();
        for (int key = 0; key < 8; key++) {
            web.write(0, PUT, key, 5);
        }
        for (int key : NO_KEYS) {
            Check.due("key " + key, web.value(0, key), 0);
        }
        Check.due("the least key", web.value(0, 0), 5);
        Check.due("the greatest key", web.value(0, 7), 5);
    }

    private static void valueAtNone() {
        HashLinkedWeb web = someWeb();
        for (int r : NO_REPLICAS) {
            for (int key = -1; key <= 8; key++) {
                Check.due("value at " + r, web.value(r, key), 0);
            }
        }
    }

    private static void allNoneToForty() {
        HashLinkedWeb web = new HashLinkedWeb();
        for (int count = 0; count <= 41; count++) {
            Check.due("all", web.all(), Math.min(40, count));
            offer(web, count % 4, 0, PUT, 0, count);
        }
        web.meet(0, 1);
        web.meet(2, 3);
        web.drop(0);
        Check.due("after meetings", web.all(), 40);
    }

    private static void call512() {
        HashLinkedWeb web = new HashLinkedWeb();
        for (int call = 1; call <= 508; call++) {
            Check.due("call " + call, web.write(call % 4, ADD, 0, 1), call <= 40 ? LET_IN : WRONG);
        }
        Check.due("call 509", web.meet(0, 1), 10);
        Check.due("call 510", web.held(1), 20);
        Check.due("call 511", web.value(1, 0), 20);
        Check.due("call 512", web.all(), 40);
    }
}
