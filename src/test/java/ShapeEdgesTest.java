/** The terms: replicas, keys, links, the hash, and each condition of being in shape by itself. */
public final class ShapeEdgesTest implements Terms {
    private static final long LOW = Long.MIN_VALUE;
    private static final long HIGH = Long.MAX_VALUE;

    public static void main(String[] args) {
        Check.edge("REPLICAS are 0 .. 3", ShapeEdgesTest::replicas);
        Check.edge("KEYS are 0 .. 7", ShapeEdgesTest::keys);
        Check.edge("an AUTHOR (an int), a KIND, a KEY and a VALUE (ints)", ShapeEdgesTest::anyInts);
        Check.edge("a row of LINKS, at most 4 longs", ShapeEdgesTest::atMostFourLinks);
        Check.edge("taking in, one after the other, author, kind, key, value", ShapeEdgesTest::eachNumberInItsPlace);
        Check.edge("the number of links, and each link", ShapeEdgesTest::linksAreTakenIn);
        Check.edge("(h XOR x) * 1099511628211 (wrapping)", ShapeEdgesTest::productWraps);
        Check.edge("shifted to the right by 29, with zeros in front", ShapeEdgesTest::zerosInFront);
        Check.edge("Ints are taken in as longs of the same value", ShapeEdgesTest::negativeInts);
        Check.edge("its author is 0 .. 3", ShapeEdgesTest::authorInShape);
        Check.edge("its kind 0 (PUT), 1 (ADD), 2 (LOCK) or 3 (FREE)", ShapeEdgesTest::kindInShape);
        Check.edge("its key 0 .. 7", ShapeEdgesTest::keyInShape);
        Check.edge("a VALUE (ints)", ShapeEdgesTest::valueInShape);
        Check.edge("its links grow", ShapeEdgesTest::linksGrow);
        Check.edge("no two being the same", ShapeEdgesTest::noTwoLinksTheSame);
        Check.edge("its links grow", ShapeEdgesTest::fewLinksGrow);
        Check.finish();
    }

    private static long hash(int author, int kind, int key, int value, long... links) {
        HashLinkedWeb web = new HashLinkedWeb();
        Offers.draft(web, author, kind, key, value, links);
        return web.draftHash();
    }

    private static int offered(int author, int kind, int key, int value, long... links) {
        HashLinkedWeb web = new HashLinkedWeb();
        int answer = Offers.offer(web, 1, author, kind, key, value, links);
        Check.due("held after " + answer, web.held(1), answer == LET_IN ? 1 : 0);
        Check.due("waiting after " + answer, web.waiting(1), answer == WAITS ? 1 : 0);
        Check.due("all after " + answer, web.all(), answer == LET_IN ? 1 : 0);
        return answer;
    }

    private static void replicas() {
        HashLinkedWeb web = new HashLinkedWeb();
        for (int r = 0; r <= 3; r++) {
            Check.due("write at " + r, web.write(r, PUT, 0, r + 1), LET_IN);
        }
        for (int r : NO_REPLICAS) {
            Check.due("write at " + r, web.write(r, PUT, 0, 9), NONE);
        }
        for (int r = 0; r <= 3; r++) {
            Check.due("held at " + r, web.held(r), 1);
            Check.due("value at " + r, web.value(r, 0), r + 1);
        }
    }

    private static void keys() {
        HashLinkedWeb web = new HashLinkedWeb();
        for (int key = 0; key <= 7; key++) {
            Check.due("PUT of key " + key, web.write(2, PUT, key, 10 + key), LET_IN);
        }
        for (int key : NO_KEYS) {
            Check.due("PUT of key " + key, web.write(2, PUT, key, 9), WRONG);
            Check.due("value of key " + key, web.value(2, key), 0);
        }
        for (int key = 0; key <= 7; key++) {
            Check.due("value of key " + key, web.value(2, key), 10 + key);
        }
    }

    private static void anyInts() {
        Check.due("all the least", hash(LEAST, LEAST, LEAST, LEAST), -5535980866873060890L);
        Check.due("all the greatest", hash(GREATEST, GREATEST, GREATEST, GREATEST), -5846887269211980320L);
        Check.due("the least of the right shape", hash(0, 0, 0, LEAST), -5484272437038917744L);
        Check.due("the greatest of the right shape", hash(3, 3, 7, GREATEST), -5500563491330720896L);
    }

    private static void atMostFourLinks() {
        HashLinkedWeb web = new HashLinkedWeb();
        long[] roots = new long[5];
        for (int i = 0; i < 5; i++) {
            roots[i] = Offers.letIn(web, 0, i % 4, PUT, i, i);
        }
        roots = Offers.growing(roots);
        web.draft(0, PUT, 5, 0);
        for (int i = 0; i < 4; i++) {
            Check.due("link " + i, web.link(roots[i]), true);
        }
        Check.due("a fifth link", web.link(roots[4]), false);
        Check.due("one with four links", web.offer(0), LET_IN);
        Check.due("four links", web.about(0, 5, 4), 4);
        Check.due("the last of them", web.linkAt(0, 5, 3), roots[3]);
        Check.due("the fifth is no link", web.linkAt(0, 5, 4), 0);
    }

    private static void eachNumberInItsPlace() {
        Check.due("none", hash(0, 0, 0, 0), -1350209534703076872L);
        Check.due("author", hash(1, 0, 0, 0), 503955943278527848L);
        Check.due("kind", hash(0, 1, 0, 0), -5415042936614293623L);
        Check.due("key", hash(0, 0, 1, 0), -1466692896968593533L);
        Check.due("value", hash(0, 0, 0, 1), -1352454737500456719L);
    }

    private static void linksAreTakenIn() {
        long[] links = {LOW, -1, 0, HIGH};
        long[] due = {8662803914322417366L, -3100629118528215878L, -8104929410832868599L,
            -3880711950533211059L, 7782985420679355900L};
        HashLinkedWeb web = new HashLinkedWeb();
        web.draft(3, LOCK, 6, -5);
        Check.due("no link", web.draftHash(), due[0]);
        for (int i = 0; i < 4; i++) {
            web.link(links[i]);
            Check.due(i + 1 + " links", web.draftHash(), due[i + 1]);
        }
        Check.due("no link and no number", hash(0, 0, 0, 0), -1350209534703076872L);
        Check.due("a link 0", hash(0, 0, 0, 0, 0), -3024641973801745353L);
        Check.due("two links 0", hash(0, 0, 0, 0, 0, 0), 7576584286503133206L);
        Check.due("links 1 and 2", hash(0, 0, 0, 0, 1, 2), 7574719514753863449L);
        Check.due("links 2 and 1", hash(0, 0, 0, 0, 2, 1), 7579171437340556539L);
    }

    private static void productWraps() {
        Check.due("the greatest link", hash(2, 1, 5, 9, HIGH, 0, -1, LOW), 3119242145489085921L);
        Check.due("the least link", hash(2, 1, 5, 9, LOW, -1, 0, HIGH), -8625248664171483373L);
        Check.due("link -1", hash(0, 0, 0, 0, -1), 3024640895053959141L);
    }

    /** The first numbers would be due if the sign were put in front. */
    private static void zerosInFront() {
        Check.due("with the sign, none", hash(0, 0, 0, 0) == 5746738788717160848L, false);
        Check.due("with the sign, 3 2 6 -5", hash(3, 2, 6, -5) == 1808195150314769261L, false);
        Check.due("none", hash(0, 0, 0, 0), -1350209534703076872L);
        Check.due("3 2 6 -5", hash(3, 2, 6, -5), 8662803914322417366L);
    }

    private static void negativeInts() {
        Check.due("author -1", hash(-1, 0, 0, 0), -872805698575647359L);
        Check.due("kind -1", hash(0, -1, 0, 0), -5490354644970920213L);
        Check.due("key -1", hash(0, 0, -1, 0), -8832026700982587684L);
        Check.due("value -1", hash(0, 0, 0, -1), -5420178572556365594L);
        Check.due("value -1 without sign", hash(0, 0, 0, -1) == -4330738740676470802L, false);
    }

    private static void authorInShape() {
        for (int author = 0; author <= 3; author++) {
            Check.due("author " + author, offered(author, PUT, 0, 0), LET_IN);
        }
        for (int author : NO_REPLICAS) {
            Check.due("author " + author, offered(author, PUT, 0, 0), WRONG);
        }
    }

    private static void kindInShape() {
        for (int kind = PUT; kind <= FREE; kind++) {
            Check.due("kind " + kind, offered(0, kind, 0, 0), LET_IN);
        }
        for (int kind : NO_KINDS) {
            Check.due("kind " + kind, offered(0, kind, 0, 0), WRONG);
        }
    }

    private static void keyInShape() {
        for (int key = 0; key <= 7; key++) {
            Check.due("key " + key, offered(0, PUT, key, 0), LET_IN);
        }
        for (int key : NO_KEYS) {
            Check.due("key " + key, offered(0, PUT, key, 0), WRONG);
        }
    }

    private static void valueInShape() {
        for (int value : new int[] {LEAST, -1, 0, 1, GREATEST}) {
            Check.due("value " + value, offered(0, PUT, 0, value), LET_IN);
        }
    }

    private static void linksGrow() {
        Check.due("two that grow", offered(0, PUT, 0, 0, 4, 5), WAITS);
        Check.due("two that fall", offered(0, PUT, 0, 0, 5, 4), WRONG);
        Check.due("four that grow", offered(0, PUT, 0, 0, 1, 2, 3, 4), WAITS);
        Check.due("the first two fall", offered(0, PUT, 0, 0, 2, 1, 3, 4), WRONG);
        Check.due("the midst falls", offered(0, PUT, 0, 0, 1, 3, 2, 4), WRONG);
        Check.due("the last two fall", offered(0, PUT, 0, 0, 1, 2, 4, 3), WRONG);
        Check.due("from the least to the greatest", offered(0, PUT, 0, 0, LOW, HIGH), WAITS);
        Check.due("from the greatest to the least", offered(0, PUT, 0, 0, HIGH, LOW), WRONG);
    }

    private static void noTwoLinksTheSame() {
        Check.due("two", offered(0, PUT, 0, 0, 6, 6), WRONG);
        Check.due("the first two of three", offered(0, PUT, 0, 0, 6, 6, 7), WRONG);
        Check.due("the last two of four", offered(0, PUT, 0, 0, 1, 2, 6, 6), WRONG);
        Check.due("the outer ones of three", offered(0, PUT, 0, 0, 6, 7, 6), WRONG);
        Check.due("two of 0", offered(0, PUT, 0, 0, 0, 0), WRONG);
    }

    private static void fewLinksGrow() {
        Check.due("no link", offered(0, PUT, 0, 0), LET_IN);
        for (long link : new long[] {LOW, -1, 0, HIGH}) {
            Check.due("link " + link, offered(0, PUT, 0, 0, link), WAITS);
        }
    }
}
