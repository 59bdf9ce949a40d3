/** The document's names and the numbers just outside what it allows, for the tests. */
interface Terms {
    int PUT = 0;
    int ADD = 1;
    int LOCK = 2;
    int FREE = 3;
    int HELD = HashLinkedWeb.HELD;
    int LET_IN = HashLinkedWeb.LET_IN;
    int WAITS = HashLinkedWeb.WAITS;
    int WRONG = HashLinkedWeb.WRONG;
    int NONE = HashLinkedWeb.NONE;
    int LEAST = Integer.MIN_VALUE;
    int GREATEST = Integer.MAX_VALUE;
    int[] NO_REPLICAS = {-1, 4, LEAST, GREATEST};
    int[] NO_KEYS = {-1, 8, LEAST, GREATEST};
    int[] NO_KINDS = {-1, 4, LEAST, GREATEST};
}
