import java.util.Arrays;

/** Drafts an operation with its links and offers it, in one step. */
final class Offers {
    private Offers() {
    }

    static void draft(HashLinkedWeb web, int author, int kind, int key, int value, long... links) {
        web.draft(author, kind, key, value);
        for (long link : links) {
            web.link(link);
        }
    }

    static int offer(HashLinkedWeb web, int replica, int author, int kind, int key, int value, long... links) {
        draft(web, author, kind, key, value, links);
        return web.offer(replica);
    }

    /** Offers an operation that must be let in, and answers its hash. */
    static long letIn(HashLinkedWeb web, int replica, int author, int kind, int key, int value, long... links) {
        int answer = offer(web, replica, author, kind, key, value, links);
        Check.due("letting in " + author + " " + kind + " " + key + " " + value, answer, HashLinkedWeb.LET_IN);
        return Hashes.of(author, kind, key, value, links);
    }

    /** The replica writes this many operations one over the other, of a key that no other test uses. */
    static void fill(HashLinkedWeb web, int replica, int count) {
        for (int i = 0; i < count; i++) {
            Check.due("filling", web.write(replica, 1, 7, 1), HashLinkedWeb.LET_IN);
        }
    }

    static long[] growing(long... links) {
        long[] row = links.clone();
        Arrays.sort(row);
        return row;
    }
}
