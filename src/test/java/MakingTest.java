import java.util.Arrays;

/** Promises 1 to 5: a new object, write, draft, link, draftHash. */
public final class MakingTest {
    private static final int[] NO_REPLICAS = {-1, 4, 5, Integer.MIN_VALUE, Integer.MAX_VALUE};

    public static void main(String[] args) {
        newObjectIsEmpty();
        newObjectsShareNothing();
        writeLinksToTheHeads();
        writeTakesTheFourGreatestHeads();
        writeOutOfShapeIsWrong();
        writeAtNoReplica();
        writeLeavesTheDraft();
        draftBeginsAnew();
        linkGoesBehindTheOthers();
        fifthLinkIsRefused();
        draftHashTakesAllIn();
        Check.finish();
    }

    private static void newObjectIsEmpty() {
        HashLinkedWeb web = new HashLinkedWeb();
        Check.due("new: all()", web.all(), 0);
        for (int r = 0; r < 4; r++) {
            Check.due("new: held", web.held(r), 0);
            Check.due("new: waiting", web.waiting(r), 0);
            Check.due("new: heads", web.heads(r), 0);
            Check.due("new: hashAt", web.hashAt(r, 0), 0);
            Check.due("new: headAt", web.headAt(r, 0), 0);
            Check.due("new: about", web.about(r, 0, 0), HashLinkedWeb.NONE);
            Check.due("new: drop", web.drop(r), 0);
            Check.due("new: meet", web.meet(r, (r + 1) % 4), 0);
            for (int key = 0; key < 8; key++) {
                Check.due("new: value", web.value(r, key), 0);
            }
        }
        Check.due("new: draftHash", web.draftHash(), Hashes.of(0, 0, 0, 0));
        Check.due("new: offer", web.offer(2), HashLinkedWeb.LET_IN);
        for (int what = 0; what < 5; what++) {
            Check.due("new: the draft has 0 for " + what, web.about(2, 0, what), 0);
        }
    }

    private static void newObjectsShareNothing() {
        HashLinkedWeb one = new HashLinkedWeb();
        one.draft(1, 1, 1, 1);
        one.link(1);
        one.write(0, 0, 0, 1);
        HashLinkedWeb other = new HashLinkedWeb();
        Check.due("second object: all", other.all(), 0);
        Check.due("second object: held", other.held(0), 0);
        Check.due("second object: draftHash", other.draftHash(), Hashes.of(0, 0, 0, 0));
    }

    private static void writeLinksToTheHeads() {
        HashLinkedWeb web = new HashLinkedWeb();
        Check.due("write: first", web.write(3, 1, 7, -5), HashLinkedWeb.LET_IN);
        long first = Hashes.of(3, 1, 7, -5);
        Check.due("write: first's hash", web.hashAt(3, 0), first);
        Check.due("write: the same again", web.write(3, 1, 7, -5), HashLinkedWeb.LET_IN);
        long second = Hashes.of(3, 1, 7, -5, first);
        Check.due("write: second's hash", web.hashAt(3, 1), second);
        Check.due("write: not held elsewhere", web.held(0), 0);
        Check.due("write: a head beside", Offers.offer(web, 3, 0, 0, 0, 0), HashLinkedWeb.LET_IN);
        long beside = Hashes.of(0, 0, 0, 0);
        Check.due("write: over two heads", web.write(3, 0, 2, 9), HashLinkedWeb.LET_IN);
        long over = Hashes.of(3, 0, 2, 9, Math.min(second, beside), Math.max(second, beside));
        Check.due("write: over's hash", web.has(3, over), true);
        Check.due("write: one head is left", web.heads(3), 1);
        Check.due("write: and it is over", web.headAt(3, 0), over);
    }

    private static void writeTakesTheFourGreatestHeads() {
        for (int count = 3; count <= 7; count++) {
            HashLinkedWeb web = new HashLinkedWeb();
            long[] heads = new long[count];
            for (int i = 0; i < count; i++) {
                Offers.offer(web, 1, i % 4, 0, i, i);
                heads[i] = Hashes.of(i % 4, 0, i, i);
            }
            Arrays.sort(heads);
            long[] links = Arrays.copyOfRange(heads, Math.max(0, count - 4), count);
            Check.due(count + " heads: write", web.write(1, 0, 0, 50), HashLinkedWeb.LET_IN);
            Check.due(count + " heads: has", web.has(1, Hashes.of(1, 0, 0, 50, links)), true);
            Check.due(count + " heads: links", web.about(1, count, 4), links.length);
            for (int j = 0; j < 4; j++) {
                Check.due(count + " heads: link " + j, web.linkAt(1, count, j), j < links.length ? links[j] : 0);
            }
            Check.due(count + " heads: left", web.heads(1), count - links.length + 1);
        }
    }

    private static void writeOutOfShapeIsWrong() {
        HashLinkedWeb web = new HashLinkedWeb();
        int[][] wrong = {{-1, 0}, {4, 0}, {0, -1}, {0, 8}, {Integer.MIN_VALUE, 0}, {Integer.MAX_VALUE, 0},
            {0, Integer.MIN_VALUE}, {0, Integer.MAX_VALUE}};
        for (int[] one : wrong) {
            String call = "write(0, " + one[0] + ", " + one[1] + ", 1)";
            Check.due(call, web.write(0, one[0], one[1], 1), HashLinkedWeb.WRONG);
        }
        Check.due("after wrong writes: held", web.held(0), 0);
        Check.due("after wrong writes: waiting", web.waiting(0), 0);
        Check.due("after wrong writes: all", web.all(), 0);
        for (int kind = 0; kind < 4; kind++) {
            Check.due("write: kind " + kind, web.write(0, kind, kind * 2 + 1, 1), HashLinkedWeb.LET_IN);
        }
    }

    private static void writeAtNoReplica() {
        HashLinkedWeb web = new HashLinkedWeb();
        for (int r : NO_REPLICAS) {
            Check.due("write at " + r, web.write(r, 0, 0, 0), HashLinkedWeb.NONE);
            Check.due("write of a wrong kind at " + r, web.write(r, 9, 0, 0), HashLinkedWeb.NONE);
        }
        Check.due("write at no replica: all", web.all(), 0);
    }

    private static void writeLeavesTheDraft() {
        HashLinkedWeb web = new HashLinkedWeb();
        Offers.draft(web, 1, 2, 3, 4, 5, 6);
        web.write(0, 0, 0, 7);
        web.write(0, 0, 0, 8);
        Check.due("the draft after write", web.draftHash(), Hashes.of(1, 2, 3, 4, 5, 6));
    }

    private static void draftBeginsAnew() {
        HashLinkedWeb web = new HashLinkedWeb();
        Offers.draft(web, 1, 2, 3, 4, 5, 6);
        web.draft(3, 1, 6, -9);
        Check.due("draft: no links of the one before", web.draftHash(), Hashes.of(3, 1, 6, -9));
        Check.due("draft: offered", web.offer(0), HashLinkedWeb.LET_IN);
        int[] numbers = {3, 1, 6, -9, 0, 1};
        for (int what = 0; what < 6; what++) {
            Check.due("draft: about " + what, web.about(0, 0, what), numbers[what]);
        }
        web.draft(Integer.MIN_VALUE, -7, 99, Integer.MAX_VALUE);
        Check.due("draft: of any ints", web.draftHash(), Hashes.of(Integer.MIN_VALUE, -7, 99, Integer.MAX_VALUE));
        Check.due("draft: is not offered by itself", web.all(), 1);
    }

    private static void linkGoesBehindTheOthers() {
        HashLinkedWeb web = new HashLinkedWeb();
        long[] links = {9, -4, 9, Long.MIN_VALUE};
        for (int count = 1; count <= 4; count++) {
            Check.due("link " + count, web.link(links[count - 1]), true);
            long due = Hashes.of(0, 0, 0, 0, Arrays.copyOf(links, count));
            Check.due("link " + count + ": draftHash", web.draftHash(), due);
        }
        Check.due("offering keeps the draft", web.offer(0), HashLinkedWeb.WRONG);
        Check.due("offered: draftHash", web.draftHash(), Hashes.of(0, 0, 0, 0, links));
        web.draft(0, 0, 0, 0);
        web.link(4);
        web.offer(0);
        web.link(5);
        Check.due("link after an offer", web.draftHash(), Hashes.of(0, 0, 0, 0, 4, 5));
        web.draft(0, 0, 0, 0);
        long base = Hashes.of(2, 0, 0, 0);
        web.link(base);
        Check.due("a draft that waits", web.offer(1), HashLinkedWeb.WAITS);
        web.link(Long.MAX_VALUE);
        web.draft(2, 0, 0, 0);
        web.offer(1);
        Check.due("what waits is not changed by link", web.has(1, Hashes.of(0, 0, 0, 0, base)), true);
        Check.due("it has its one link", web.linkAt(1, 1, 0), base);
        Check.due("and no other", web.about(1, 1, 4), 1);
    }

    private static void fifthLinkIsRefused() {
        HashLinkedWeb web = new HashLinkedWeb();
        web.draft(1, 1, 1, 1);
        for (long link = 1; link <= 4; link++) {
            Check.due("link " + link, web.link(link), true);
        }
        long due = Hashes.of(1, 1, 1, 1, 1, 2, 3, 4);
        for (long link = 4; link <= 6; link++) {
            Check.due("a fifth link", web.link(link), false);
            Check.due("a fifth link: draftHash", web.draftHash(), due);
        }
        web.draft(1, 1, 1, 1);
        Check.due("links of a new draft", web.link(7), true);
    }

    private static void draftHashTakesAllIn() {
        HashLinkedWeb web = new HashLinkedWeb();
        web.draft(1, 0, 7, -3);
        Check.due("draftHash of 1 0 7 -3", web.draftHash(), 6247156896613562849L);
        int[] numbers = {1, 2, 3, 4};
        long base = Hashes.of(1, 2, 3, 4);
        for (int i = 0; i < 4; i++) {
            int[] other = numbers.clone();
            other[i] = -other[i];
            web.draft(other[0], other[1], other[2], other[3]);
            long due = Hashes.of(other[0], other[1], other[2], other[3]);
            Check.due("draftHash with " + -numbers[i], web.draftHash(), due);
            Check.due("draftHash is another one", web.draftHash() != base, true);
        }
        Check.due("draftHash twice", web.draftHash(), web.draftHash());
    }
}
