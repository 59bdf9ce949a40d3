/** The terms: each condition of being right by itself. */
public final class RightEdgesTest implements Terms {
    private static final int KEY = 3;

    public static void main(String[] args) {
        Check.edge("RIGHT in a replica that holds all of its links", RightEdgesTest::linksHeldHere);
        Check.edge("when it is in shape", RightEdgesTest::inShape);
        Check.edge("no link is in the past of another of its links", RightEdgesTest::linkOfALink);
        Check.edge("no link is in the past of another of its links", RightEdgesTest::linkFarBelowALink);
        Check.edge("no link is in the past of another of its links", RightEdgesTest::linkOfLesserOrGreaterHash);
        Check.edge("no link is in the past of another of its links", RightEdgesTest::onePairAmongFour);
        Check.edge("no link is in the past of another of its links", RightEdgesTest::linksWithOnePast);
        Check.edge("for each LOCK", RightEdgesTest::otherKindsLockNothing);
        Check.edge("of its key", RightEdgesTest::lockOfAnotherKey);
        Check.edge("by another author", RightEdgesTest::ownLock);
        Check.edge("by another author", RightEdgesTest::anothersLockKeepsEveryKindOut);
        Check.edge("in its past", RightEdgesTest::lockNotInThePast);
        Check.edge("in its past", RightEdgesTest::lockFarBelow);
        Check.edge("in its past", RightEdgesTest::lockAmongFourLinks);
        Check.edge("those, and the past of each of them", RightEdgesTest::lockUnderOneOfFourLinks);
        Check.edge("those, and the past of each of them", RightEdgesTest::freeUnderOneOfFourLinks);
        Check.edge("there is also in its past a FREE", RightEdgesTest::freeNotInThePast);
        Check.edge("there is also in its past a FREE", RightEdgesTest::freeAsLinkAndFarBelow);
        Check.edge("there is also in its past a FREE", RightEdgesTest::onlyAFreeFrees);
        Check.edge("a FREE of this key", RightEdgesTest::freeOfAnotherKey);
        Check.edge("by the LOCK's author", RightEdgesTest::freeOfAnotherAuthor);
        Check.edge("that has the LOCK in its own past", RightEdgesTest::freeBesideTheLock);
        Check.edge("that has the LOCK in its own past", RightEdgesTest::freeBeforeTheLock);
        Check.edge("that has the LOCK in its own past", RightEdgesTest::freeFarOverTheLock);
        Check.edge("for each LOCK", RightEdgesTest::secondLockNotFreed);
        Check.edge("for each LOCK", RightEdgesTest::locksOfTwoAuthors);
        Check.edge("for each LOCK", RightEdgesTest::oneFreeOverTwoLocks);
        Check.edge("for each LOCK", RightEdgesTest::lockedAgainAfterTheFree);
        Check.finish();
    }

    private static int offer(HashLinkedWeb web, int author, int kind, int key, int value, long... links) {
        return Offers.offer(web, 0, author, kind, key, value, Offers.growing(links));
    }

    private static long letIn(HashLinkedWeb web, int author, int kind, int key, int value, long... links) {
        return Offers.letIn(web, 0, author, kind, key, value, Offers.growing(links));
    }

    private static void linksHeldHere() {
        HashLinkedWeb web = new HashLinkedWeb();
        long root = letIn(web, 0, PUT, KEY, 1);
        Check.due("where the link is held", Offers.offer(web, 0, 1, PUT, KEY, 2, root), LET_IN);
        Check.due("where it is held elsewhere", Offers.offer(web, 1, 1, PUT, KEY, 2, root), WAITS);
        Check.due("one that nobody holds", Offers.offer(web, 0, 1, PUT, KEY, 2, root + 1), WAITS);
    }

    private static void inShape() {
        HashLinkedWeb web = new HashLinkedWeb();
        long root = letIn(web, 0, PUT, KEY, 1);
        Check.due("author 4", offer(web, 4, PUT, KEY, 2, root), WRONG);
        Check.due("author -1", offer(web, -1, PUT, KEY, 2, root), WRONG);
        Check.due("kind 4", offer(web, 0, 4, KEY, 2, root), WRONG);
        Check.due("kind -1", offer(web, 0, -1, KEY, 2, root), WRONG);
        Check.due("key 8", offer(web, 0, PUT, 8, 2, root), WRONG);
        Check.due("key -1", offer(web, 0, PUT, -1, 2, root), WRONG);
        Check.due("the link twice", offer(web, 0, PUT, KEY, 2, root, root), WRONG);
        Check.due("in shape", offer(web, 0, PUT, KEY, 2, root), LET_IN);
    }

    private static void linkOfALink() {
        HashLinkedWeb web = new HashLinkedWeb();
        long root = letIn(web, 0, PUT, 0, 1);
        long over = letIn(web, 0, PUT, 0, 2, root);
        Check.due("both", offer(web, 1, PUT, KEY, 3, root, over), WRONG);
        Check.due("the upper one alone", offer(web, 1, PUT, KEY, 3, over), LET_IN);
        Check.due("the lower one alone", offer(web, 1, PUT, KEY, 3, root), LET_IN);
    }

    private static void linkFarBelowALink() {
        HashLinkedWeb web = new HashLinkedWeb();
        long root = letIn(web, 0, PUT, 0, 1);
        long top = root;
        for (int i = 0; i < 30; i++) {
            top = letIn(web, 0, PUT, 0, 2, top);
        }
        Check.due("the first and the 31st of a row", offer(web, 1, PUT, KEY, 3, root, top), WRONG);
    }

    /** The lower of the two links once with the lesser, once with the greater hash. */
    private static void linkOfLesserOrGreaterHash() {
        for (int turn = 0; turn < 2; turn++) {
            HashLinkedWeb web = new HashLinkedWeb();
            long root = letIn(web, 0, PUT, 0, 1);
            int value = 0;
            while (Hashes.of(0, PUT, 0, value, root) > root != (turn == 0)) {
                value++;
            }
            long over = letIn(web, 0, PUT, 0, value, root);
            Check.due("the hash below is the lesser", root < over, turn == 0);
            Check.due("both", offer(web, 1, PUT, KEY, 3, root, over), WRONG);
        }
    }

    private static void onePairAmongFour() {
        HashLinkedWeb web = new HashLinkedWeb();
        long[] roots = new long[4];
        for (int i = 0; i < 4; i++) {
            roots[i] = letIn(web, i, PUT, 0, i);
        }
        Check.due("four beside one another", offer(web, 0, PUT, KEY, 0, roots), LET_IN);
        for (int i = 0; i < 4; i++) {
            for (int j = 0; j < 4; j++) {
                if (i != j) {
                    long[] links = roots.clone();
                    links[i] = Hashes.of(0, ADD, 1, 1, roots[j]);
                    Offers.offer(web, 0, 0, ADD, 1, 1, roots[j]);
                    Check.due("one over " + j + " in place of " + i, offer(web, 0, PUT, KEY, 1, links), WRONG);
                }
            }
        }
        long[] links = roots.clone();
        links[2] = Hashes.of(0, ADD, 1, 1, roots[2]);
        Check.due("one over 2 in place of 2", offer(web, 0, PUT, KEY, 1, links), LET_IN);
    }

    private static void linksWithOnePast() {
        HashLinkedWeb web = new HashLinkedWeb();
        long root = letIn(web, 0, PUT, 0, 1);
        long left = letIn(web, 0, PUT, 0, 2, root);
        long right = letIn(web, 0, PUT, 0, 3, root);
        Check.due("two over one root", offer(web, 1, PUT, KEY, 3, left, right), LET_IN);
    }

    private static void otherKindsLockNothing() {
        for (int kind : new int[] {PUT, ADD, FREE}) {
            HashLinkedWeb web = new HashLinkedWeb();
            long below = letIn(web, 0, kind, KEY, 1);
            Check.due("over kind " + kind, offer(web, 1, PUT, KEY, 2, below), LET_IN);
        }
        HashLinkedWeb web = new HashLinkedWeb();
        long below = letIn(web, 0, LOCK, KEY, 1);
        Check.due("over a LOCK", offer(web, 1, PUT, KEY, 2, below), WRONG);
    }

    private static void lockOfAnotherKey() {
        HashLinkedWeb web = new HashLinkedWeb();
        long lock = letIn(web, 0, LOCK, KEY, 1);
        for (int key = 0; key < 8; key++) {
            Check.due("key " + key, offer(web, 1, PUT, key, 2, lock), key == KEY ? WRONG : LET_IN);
        }
    }

    private static void ownLock() {
        for (int author = 0; author < 4; author++) {
            HashLinkedWeb web = new HashLinkedWeb();
            long lock = letIn(web, author, LOCK, KEY, 1);
            for (int kind = PUT; kind <= FREE; kind++) {
                Check.due("kind " + kind + " over its own LOCK", offer(web, author, kind, KEY, 2, lock), LET_IN);
            }
        }
    }

    private static void anothersLockKeepsEveryKindOut() {
        for (int author = 1; author < 4; author++) {
            HashLinkedWeb web = new HashLinkedWeb();
            long lock = letIn(web, 0, LOCK, KEY, 1);
            for (int kind = PUT; kind <= FREE; kind++) {
                Check.due("kind " + kind + " by " + author, offer(web, author, kind, KEY, 2, lock), WRONG);
            }
            Check.due("held", web.held(0), 1);
        }
    }

    private static void lockNotInThePast() {
        HashLinkedWeb web = new HashLinkedWeb();
        long root = letIn(web, 2, PUT, 0, 1);
        letIn(web, 0, LOCK, KEY, 1, root);
        Check.due("beside the LOCK, no links", offer(web, 1, PUT, KEY, 2), LET_IN);
        Check.due("beside the LOCK, over its link", offer(web, 1, PUT, KEY, 3, root), LET_IN);
    }

    private static void lockFarBelow() {
        HashLinkedWeb web = new HashLinkedWeb();
        long top = letIn(web, 0, LOCK, KEY, 1);
        for (int i = 0; i < 30; i++) {
            top = letIn(web, 1, PUT, 0, i, top);
        }
        Check.due("30 over the LOCK", offer(web, 1, PUT, KEY, 2, top), WRONG);
        Check.due("the LOCK's author there", offer(web, 0, PUT, KEY, 2, top), LET_IN);
    }

    private static void lockAmongFourLinks() {
        HashLinkedWeb web = new HashLinkedWeb();
        long[] locks = new long[4];
        for (int key = 0; key < 4; key++) {
            locks[key] = letIn(web, 0, LOCK, key, 0);
        }
        for (int key = 0; key < 4; key++) {
            Check.due("the LOCK of " + key, offer(web, 1, PUT, key, 0, locks), WRONG);
        }
        Check.due("a LOCK of none of them", offer(web, 1, PUT, 4, 0, locks), LET_IN);
    }

    /** Four links, each with a LOCK of another key as its own link: so one stands at every place. */
    private static void lockUnderOneOfFourLinks() {
        HashLinkedWeb web = new HashLinkedWeb();
        long[] links = new long[4];
        for (int key = 0; key < 4; key++) {
            links[key] = letIn(web, 0, PUT, 7, 0, letIn(web, 0, LOCK, key, 0));
        }
        for (int key = 0; key < 4; key++) {
            Check.due("the LOCK of " + key, offer(web, 1, PUT, key, 0, links), WRONG);
        }
        Check.due("a LOCK of none of them", offer(web, 1, PUT, 4, 0, links), LET_IN);
    }

    private static void freeUnderOneOfFourLinks() {
        HashLinkedWeb web = new HashLinkedWeb();
        long[] links = new long[4];
        for (int key = 0; key < 4; key++) {
            long free = letIn(web, 0, FREE, key, 0, letIn(web, 0, LOCK, key, 0));
            links[key] = letIn(web, 0, PUT, 7, 0, free);
        }
        for (int key = 0; key < 4; key++) {
            Check.due("the FREE of " + key, offer(web, 1, PUT, key, 0, links), LET_IN);
        }
    }

    private static void freeNotInThePast() {
        HashLinkedWeb web = new HashLinkedWeb();
        long lock = letIn(web, 0, LOCK, KEY, 1);
        long free = letIn(web, 0, FREE, KEY, 1, lock);
        Check.due("over the LOCK, beside the FREE", offer(web, 1, PUT, KEY, 2, lock), WRONG);
        Check.due("over the FREE", offer(web, 1, PUT, KEY, 2, free), LET_IN);
        Check.due("over the LOCK still", offer(web, 1, PUT, KEY, 2, lock), WRONG);
    }

    private static void freeAsLinkAndFarBelow() {
        HashLinkedWeb web = new HashLinkedWeb();
        long lock = letIn(web, 0, LOCK, KEY, 1);
        long top = letIn(web, 0, FREE, KEY, 1, lock);
        Check.due("the FREE is a link", offer(web, 1, PUT, KEY, 2, top), LET_IN);
        for (int i = 0; i < 30; i++) {
            top = letIn(web, 1, PUT, 0, i, top);
        }
        Check.due("the FREE is far below", offer(web, 1, PUT, KEY, 3, top), LET_IN);
    }

    private static void onlyAFreeFrees() {
        for (int kind = PUT; kind <= FREE; kind++) {
            HashLinkedWeb web = new HashLinkedWeb();
            long lock = letIn(web, 0, LOCK, KEY, 1);
            long over = letIn(web, 0, kind, KEY, 1, lock);
            int due = kind == FREE ? LET_IN : WRONG;
            Check.due("over kind " + kind, offer(web, 1, PUT, KEY, 2, over), due);
        }
    }

    private static void freeOfAnotherKey() {
        for (int key = 0; key < 8; key++) {
            HashLinkedWeb web = new HashLinkedWeb();
            long lock = letIn(web, 0, LOCK, KEY, 1);
            long free = letIn(web, 0, FREE, key, 1, lock);
            Check.due("over a FREE of key " + key, offer(web, 1, PUT, KEY, 2, free), key == KEY ? LET_IN : WRONG);
        }
    }

    /** Another's FREE is not right over the LOCK; beside it, it frees nothing. */
    private static void freeOfAnotherAuthor() {
        HashLinkedWeb web = new HashLinkedWeb();
        long lock = letIn(web, 0, LOCK, KEY, 1);
        Check.due("another's FREE over the LOCK", offer(web, 1, FREE, KEY, 1, lock), WRONG);
        long beside = letIn(web, 1, FREE, KEY, 1);
        Check.due("over both, its author", offer(web, 1, PUT, KEY, 2, lock, beside), WRONG);
        Check.due("over both, a third", offer(web, 2, PUT, KEY, 2, lock, beside), WRONG);
        Check.due("over both, the LOCK's author", offer(web, 0, PUT, KEY, 2, lock, beside), LET_IN);
    }

    private static void freeBesideTheLock() {
        HashLinkedWeb web = new HashLinkedWeb();
        long lock = letIn(web, 0, LOCK, KEY, 1);
        long free = letIn(web, 0, FREE, KEY, 1);
        Check.due("over both", offer(web, 1, PUT, KEY, 2, lock, free), WRONG);
    }

    private static void freeBeforeTheLock() {
        HashLinkedWeb web = new HashLinkedWeb();
        long free = letIn(web, 0, FREE, KEY, 1);
        long lock = letIn(web, 0, LOCK, KEY, 1, free);
        Check.due("over the LOCK", offer(web, 1, PUT, KEY, 2, lock), WRONG);
    }

    private static void freeFarOverTheLock() {
        HashLinkedWeb web = new HashLinkedWeb();
        long top = letIn(web, 0, LOCK, KEY, 1);
        for (int i = 0; i < 30; i++) {
            top = letIn(web, 1, PUT, 0, i, top);
        }
        long free = letIn(web, 0, FREE, KEY, 1, top);
        Check.due("over the FREE", offer(web, 1, PUT, KEY, 2, free), LET_IN);
    }

    private static void secondLockNotFreed() {
        HashLinkedWeb web = new HashLinkedWeb();
        long first = letIn(web, 0, LOCK, KEY, 1);
        long second = letIn(web, 0, LOCK, KEY, 2, first);
        long free = letIn(web, 0, FREE, KEY, 1, first);
        Check.due("over the FREE of the first alone", offer(web, 1, PUT, KEY, 2, free), LET_IN);
        Check.due("over the second too", offer(web, 1, PUT, KEY, 2, free, second), WRONG);
        long other = letIn(web, 0, FREE, KEY, 2, second);
        Check.due("over both FREEs", offer(web, 1, PUT, KEY, 2, free, other), LET_IN);
    }

    private static void locksOfTwoAuthors() {
        HashLinkedWeb web = new HashLinkedWeb();
        long lockOf0 = letIn(web, 0, LOCK, KEY, 1);
        long lockOf1 = letIn(web, 1, LOCK, KEY, 1);
        for (int author = 0; author < 3; author++) {
            Check.due(author + " over both", offer(web, author, PUT, KEY, 2, lockOf0, lockOf1), WRONG);
        }
        long freeOf0 = letIn(web, 0, FREE, KEY, 1, lockOf0);
        Check.due("0, the LOCK of 1 is not freed", offer(web, 0, PUT, KEY, 3, freeOf0, lockOf1), WRONG);
        Check.due("2, the LOCK of 1 is not freed", offer(web, 2, PUT, KEY, 3, freeOf0, lockOf1), WRONG);
        Check.due("1, only its own is not freed", offer(web, 1, PUT, KEY, 3, freeOf0, lockOf1), LET_IN);
        long freeOf1 = letIn(web, 1, FREE, KEY, 1, lockOf1);
        for (int author = 0; author < 3; author++) {
            Check.due(author + " over both FREEs", offer(web, author, PUT, KEY, 4, freeOf0, freeOf1), LET_IN);
        }
    }

    private static void oneFreeOverTwoLocks() {
        HashLinkedWeb web = new HashLinkedWeb();
        long first = letIn(web, 0, LOCK, KEY, 1);
        long second = letIn(web, 0, LOCK, KEY, 2);
        long free = letIn(web, 0, FREE, KEY, 1, first, second);
        Check.due("over it", offer(web, 1, PUT, KEY, 2, free), LET_IN);
    }

    private static void lockedAgainAfterTheFree() {
        HashLinkedWeb web = new HashLinkedWeb();
        long lock = letIn(web, 0, LOCK, KEY, 1);
        long free = letIn(web, 0, FREE, KEY, 1, lock);
        long again = letIn(web, 0, LOCK, KEY, 2, free);
        Check.due("over the second LOCK", offer(web, 1, PUT, KEY, 2, again), WRONG);
        long lockOf1 = letIn(web, 1, LOCK, KEY, 3, free);
        Check.due("0 over the LOCK that 1 put on its FREE", offer(web, 0, PUT, KEY, 2, lockOf1), WRONG);
    }
}
