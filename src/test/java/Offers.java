/** Drafts an operation with its links and offers it, in one step. */
final class Offers {
    private Offers() {
    }

    static void draft(HashLinkedWeb web, int author, int kind, int key, int value, long... links) {
        web.draft(author, kind, key, value);
        for (long link : links) {
            web.link(link);
        }
    }

    static int offer(HashLinkedWeb web, int replica, int author, int kind, int key, int value, long... links) {
        draft(web, author, kind, key, value, links);
        return web.offer(replica);
    }
}
