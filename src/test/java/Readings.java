/** All that the face tells of an object, as one text: what a refused call must leave as it is. */
final class Readings {
    private Readings() {
    }

    static String of(HashLinkedWeb web) {
        StringBuilder text = new StringBuilder();
        text.append(web.all()).append(' ').append(web.draftHash());
        for (int r = 0; r < 4; r++) {
            text.append('\n').append(web.held(r)).append(' ').append(web.waiting(r));
            for (int k = 0; k < web.heads(r); k++) {
                text.append(" h").append(web.headAt(r, k));
            }
            for (int key = 0; key < 8; key++) {
                text.append(" v").append(web.value(r, key));
            }
            for (int k = 0; k < web.held(r); k++) {
                operation(text, web, r, k);
            }
        }
        return text.toString();
    }

    private static void operation(StringBuilder text, HashLinkedWeb web, int r, int k) {
        text.append(" o").append(web.hashAt(r, k));
        for (int what = 0; what < 6; what++) {
            text.append(' ').append(web.about(r, k, what));
        }
        for (int j = 0; j < web.about(r, k, 4); j++) {
            text.append(" l").append(web.linkAt(r, k, j));
        }
    }
}
