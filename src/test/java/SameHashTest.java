/**
 * Different operations under one hash. Anybody can forge a link that gives a wanted hash; and there
 * are real pairs, found by search, whose links can all be held.
 */
public final class SameHashTest implements Terms {
    // Author 0: ADD of key 1, then PUT of key 1 over it. Author 1 likewise. The two PUTs have one hash.
    private static final int ADD_OF_0 = 3513545;
    private static final int PUT_OF_0 = 1163601;
    private static final int ADD_OF_1 = 1387760;
    private static final int PUT_OF_1 = 6874713;
    private static final long SHARED = 5785966247042551103L;

    public static void main(String[] args) {
        String isThatOne = "an operation that comes with the hash of one that was let in by any replica IS that one";
        Check.edge(isThatOne, SameHashTest::forgedOneIsTheHeldOne);
        Check.edge(isThatOne, SameHashTest::forgedOneIsLetInAsTheOther);
        Check.edge(isThatOne, SameHashTest::forgedOneWaitsAsTheOther);
        Check.edge(isThatOne, SameHashTest::meetingSeesOneOperation);
        Check.edge("with its numbers and links", SameHashTest::numbersAndLinksOfTheFirst);
        Check.edge("that was let in by any replica", SameHashTest::notOneThatWasWrongOrWaits);
        Check.edge("At most 40 different operations (by their hashes)", SameHashTest::forgedOneIsNoneOfItsOwn);
        String noTwo = "of those that wait at a replica no two have the same hash";
        Check.edge(noTwo, SameHashTest::noTwoWaitAtOneReplica);
        Check.edge(noTwo, SameHashTest::oneWaitsAtEachReplica);
        String asItIs = "one with the hash of one that waits leaves that one as it is";
        Check.edge(asItIs, SameHashTest::oneThatWaitsStaysAsItIs);
        Check.edge(asItIs, SameHashTest::droppedOneMakesRoom);
        Check.edge("Nothing hangs on hashes being different", SameHashTest::waitingOneDoesNotHinderTheOther);
        Check.edge("else if it is not in shape, nothing happens (WRONG)",
            SameHashTest::wrongOneDoesNotComeByTheHashOfOneThatWaits);
        Check.edge("or WAITS (when it is one that was let in elsewhere, whose links are not held here)",
            SameHashTest::writtenOneWaits);
        Check.edge("Answers LET_IN, HELD, WRONG", SameHashTest::writtenOneIsHeld);
        Check.edge("comes likewise (being held, wrong or let in)", SameHashTest::waitingOneLeavesAsHeld);
        Check.edge("comes likewise (being held, wrong or let in)", SameHashTest::waitingOneIsLetInAsTheKnownOne);
        Check.edge("comes likewise (being held, wrong or let in)", SameHashTest::waitingOneLeavesAsTheKnownOne);
        Check.finish();
    }

    private static int offer(HashLinkedWeb web, int replica, int author, int kind, int key, int value, long... links) {
        return Offers.offer(web, replica, author, kind, key, value, links);
    }

    private static void forgedOneIsTheHeldOne() {
        HashLinkedWeb web = new HashLinkedWeb();
        web.write(0, PUT, 3, 8);
        long hash = web.hashAt(0, 0);
        long link = Hashes.linkFor(hash, 9, 9, 9, 9);
        Check.due("forged, out of shape, where it is held", offer(web, 0, 9, 9, 9, 9, link), HELD);
        Check.due("forged: draftHash", web.draftHash(), hash);
        Check.due("forged: held", web.held(0), 1);
        Check.due("forged: value", web.value(0, 3), 8);
    }

    private static void forgedOneIsLetInAsTheOther() {
        HashLinkedWeb web = new HashLinkedWeb();
        web.write(0, PUT, 3, 8);
        long hash = web.hashAt(0, 0);
        long link = Hashes.linkFor(hash, 9, 9, 9, 9);
        Check.due("forged, out of shape, elsewhere", offer(web, 1, 9, 9, 9, 9, link), LET_IN);
        int[] due = {0, PUT, 3, 8, 0, 1};
        for (int what = 0; what < 6; what++) {
            Check.due("it is the other: about " + what, web.about(1, 0, what), due[what]);
        }
        Check.due("it is the other: value", web.value(1, 3), 8);
        Check.due("it is the other: all", web.all(), 1);
    }

    private static void forgedOneWaitsAsTheOther() {
        HashLinkedWeb web = new HashLinkedWeb();
        web.write(0, PUT, 3, 8);
        web.write(0, ADD, 3, 1);
        long root = web.hashAt(0, 0);
        long top = web.hashAt(0, 1);
        long link = Hashes.linkFor(top, 9, 9, 9, 9);
        Check.due("forged as one whose link is lacking", offer(web, 2, 9, 9, 9, 9, link), WAITS);
        Check.due("forged: waiting", web.waiting(2), 1);
        Check.due("the real one waits already", offer(web, 2, 0, ADD, 3, 1, root), WAITS);
        Check.due("still one", web.waiting(2), 1);
        Check.due("what it waits for", offer(web, 2, 0, PUT, 3, 8), LET_IN);
        Check.due("none waits", web.waiting(2), 0);
        Check.due("the real one is held", web.has(2, top), true);
        Check.due("value", web.value(2, 3), 9);
    }

    private static void oneThatWaitsStaysAsItIs() {
        HashLinkedWeb web = new HashLinkedWeb();
        long root = Hashes.of(0, PUT, 0, 1);
        long hash = Hashes.of(1, ADD, 0, 2, root);
        Check.due("one waits", offer(web, 0, 1, ADD, 0, 2, root), WAITS);
        long link = Hashes.linkFor(hash, 2, PUT, 7, 7);
        Check.due("another of its hash", offer(web, 0, 2, PUT, 7, 7, link), WAITS);
        Check.due("one waits still", web.waiting(0), 1);
        Check.due("what it waits for", offer(web, 0, 0, PUT, 0, 1), LET_IN);
        Check.due("the first one is held", web.has(0, hash), true);
        Check.due("with its numbers", web.value(0, 0), 3);
        Check.due("not the other one's", web.value(0, 7), 0);
    }

    private static void waitingOneDoesNotHinderTheOther() {
        HashLinkedWeb web = new HashLinkedWeb();
        long hash = Hashes.of(1, PUT, 0, 5);
        long link = Hashes.linkFor(hash, 2, PUT, 7, 7);
        Check.due("a forged one waits", offer(web, 0, 2, PUT, 7, 7, link), WAITS);
        Check.due("what is only waiting is not held", web.has(0, hash), false);
        Check.due("the real one", offer(web, 0, 1, PUT, 0, 5), LET_IN);
        Check.due("value of the real one", web.value(0, 0), 5);
        Check.due("the forged one's link is lacking still", web.waiting(0), 1);
        Check.due("the forged one is the held one", offer(web, 0, 2, PUT, 7, 7, link), HELD);
        Check.due("held once", web.held(0), 1);
        Check.due("drop", web.drop(0), 1);
    }

    private static void wrongOneDoesNotComeByTheHashOfOneThatWaits() {
        HashLinkedWeb web = new HashLinkedWeb();
        long hash = Hashes.of(1, PUT, 0, 5, 77);
        Check.due("one waits", offer(web, 0, 1, PUT, 0, 5, 77), WAITS);
        long link = Hashes.linkFor(hash, 2, PUT, 8, 7);
        Check.due("one out of shape with its hash", offer(web, 0, 2, PUT, 8, 7, link), WRONG);
        Check.due("the first one waits still", web.waiting(0), 1);
    }

    private static void writtenOneWaits() {
        HashLinkedWeb web = new HashLinkedWeb();
        web.write(0, ADD, 1, ADD_OF_0);
        Check.due("0 writes", web.write(0, PUT, 1, PUT_OF_0), LET_IN);
        Check.due("the shared hash", web.hashAt(0, 1), SHARED);
        Check.due("1 writes", web.write(1, ADD, 1, ADD_OF_1), LET_IN);
        Check.due("1 writes what 0 has let in", web.write(1, PUT, 1, PUT_OF_1), WAITS);
        Check.due("it waits", web.waiting(1), 1);
        Check.due("for the link of the known one", offer(web, 1, 0, ADD, 1, ADD_OF_0), LET_IN);
        Check.due("it waits no longer", web.waiting(1), 0);
        Check.due("held", web.held(1), 3);
        Check.due("author of the known one", web.about(1, 2, 0), 0);
        Check.due("value of the known one", web.value(1, 1), PUT_OF_0);
        Check.due("three in all", web.all(), 3);
    }

    /** Five heads: the one with the least hash has the hash of what is written over the other four. */
    private static void writtenOneIsHeld() {
        HashLinkedWeb web = new HashLinkedWeb();
        for (int value = 0; value < 3; value++) {
            Check.due("a head", offer(web, 1, 3, PUT, 2, value), LET_IN);
        }
        Check.due("the fourth head", offer(web, 1, 2, ADD, 1, 11315544), LET_IN);
        Check.due("a root", offer(web, 1, 0, ADD, 1, 131209), LET_IN);
        Check.due("the fifth head", offer(web, 1, 0, PUT, 1, 8114731, web.draftHash()), LET_IN);
        long least = web.draftHash();
        Check.due("five heads", web.heads(1), 5);
        Check.due("the least of them", web.headAt(1, 0), least);
        Check.due("what is written is held", web.write(1, PUT, 1, 3406484), HELD);
        Check.due("five heads still", web.heads(1), 5);
        Check.due("nothing new", web.held(1), 6);
    }

    /**
     * The PUT of 1 waits at 2 and, when the ADD of 1 comes, leaves; but by then it is the PUT of 0,
     * whose link is lacking at 2: so it goes to the end and waits for that one.
     */
    private static void waitingOneLeavesAsTheKnownOne() {
        HashLinkedWeb web = new HashLinkedWeb();
        long addOf1 = Hashes.of(1, ADD, 1, ADD_OF_1);
        Check.due("the PUT of 1 waits", offer(web, 2, 1, PUT, 1, PUT_OF_1, addOf1), WAITS);
        web.write(0, ADD, 1, ADD_OF_0);
        Check.due("the PUT of 0", web.write(0, PUT, 1, PUT_OF_0), LET_IN);
        Check.due("the ADD of 1", offer(web, 2, 1, ADD, 1, ADD_OF_1), LET_IN);
        Check.due("not let in", web.has(2, SHARED), false);
        Check.due("it waits", web.waiting(2), 1);
        Check.due("the ADD of 0", offer(web, 2, 0, ADD, 1, ADD_OF_0), LET_IN);
        Check.due("let in", web.has(2, SHARED), true);
        Check.due("as that of 0", web.about(2, 2, 0), 0);
        Check.due("none waits", web.waiting(2), 0);
    }

    private static void numbersAndLinksOfTheFirst() {
        HashLinkedWeb web = new HashLinkedWeb();
        long addOf0 = Offers.letIn(web, 0, 0, ADD, 1, ADD_OF_0);
        long addOf1 = Offers.letIn(web, 0, 1, ADD, 1, ADD_OF_1);
        Check.due("the PUT of 0", offer(web, 0, 0, PUT, 1, PUT_OF_0, addOf0), LET_IN);
        Check.due("the PUT of 1 is that one", offer(web, 0, 1, PUT, 1, PUT_OF_1, addOf1), HELD);
        Check.due("its links are not those of the PUT of 1", web.heads(0), 2);
        offer(web, 3, 0, ADD, 1, ADD_OF_0);
        Check.due("the PUT of 1, where the link of 0 is held", offer(web, 3, 1, PUT, 1, PUT_OF_1, addOf1), LET_IN);
        int[] due = {0, PUT, 1, PUT_OF_0, 1, 2};
        for (int what = 0; what < 6; what++) {
            Check.due("about " + what, web.about(3, 1, what), due[what]);
        }
        Check.due("linkAt", web.linkAt(3, 1, 0), addOf0);
        offer(web, 2, 1, ADD, 1, ADD_OF_1);
        Check.due("where only the link of 1 is held", offer(web, 2, 1, PUT, 1, PUT_OF_1, addOf1), WAITS);
        Check.due("three in all", web.all(), 3);
    }

    /** The hash of what only waits, or was refused, or is only drafted, says nothing of another one. */
    private static void notOneThatWasWrongOrWaits() {
        HashLinkedWeb web = new HashLinkedWeb();
        long addOf0 = Offers.letIn(web, 0, 0, ADD, 1, ADD_OF_0);
        long addOf1 = Hashes.of(1, ADD, 1, ADD_OF_1);
        Check.due("the PUT of 1 waits", offer(web, 0, 1, PUT, 1, PUT_OF_1, addOf1), WAITS);
        Check.due("the PUT of 0 is let in", offer(web, 0, 0, PUT, 1, PUT_OF_0, addOf0), LET_IN);
        Check.due("as itself", web.about(0, 1, 0), 0);
        long wrong = Hashes.of(2, PUT, 8, 1);
        Check.due("one out of shape", offer(web, 0, 2, PUT, 8, 1), WRONG);
        long link = Hashes.linkFor(wrong, 2, PUT, 7, 1);
        Check.due("one in shape with its hash", offer(web, 0, 2, PUT, 7, 1, link), WAITS);
        Check.due("the one out of shape again", offer(web, 0, 2, PUT, 8, 1), WRONG);
    }

    private static void forgedOneIsNoneOfItsOwn() {
        HashLinkedWeb web = new HashLinkedWeb();
        long root = Offers.letIn(web, 0, 0, PUT, 3, 8);
        Offers.fill(web, 1, 39);
        long link = Hashes.linkFor(root, 2, PUT, 3, 9);
        Check.due("forged, with 40 let in", offer(web, 2, 2, PUT, 3, 9, link), LET_IN);
        Check.due("value", web.value(2, 3), 8);
        Check.due("40 in all", web.all(), 40);
    }

    private static void noTwoWaitAtOneReplica() {
        HashLinkedWeb web = new HashLinkedWeb();
        long hash = Hashes.of(1, ADD, 0, 2, 77);
        Check.due("one waits", offer(web, 0, 1, ADD, 0, 2, 77), WAITS);
        for (int value = 0; value < 6; value++) {
            long link = Hashes.linkFor(hash, 2, PUT, 7, value);
            Check.due("another of its hash", offer(web, 0, 2, PUT, 7, value, link), WAITS);
            Check.due("its hash", web.draftHash(), hash);
            Check.due("one waits", web.waiting(0), 1);
        }
        Check.due("drop", web.drop(0), 1);
    }

    private static void oneWaitsAtEachReplica() {
        HashLinkedWeb web = new HashLinkedWeb();
        long root = Hashes.of(0, PUT, 0, 1);
        long hash = Hashes.of(1, ADD, 0, 2, root);
        long link = Hashes.linkFor(hash, 2, PUT, 7, 7);
        Check.due("the one waits at 0", offer(web, 0, 1, ADD, 0, 2, root), WAITS);
        Check.due("the other waits at 1", offer(web, 1, 2, PUT, 7, 7, link), WAITS);
        Check.due("the link of the one, at 1", offer(web, 1, 0, PUT, 0, 1), LET_IN);
        Check.due("the other waits still", web.waiting(1), 1);
        Check.due("the link of the one, at 0", offer(web, 0, 0, PUT, 0, 1), LET_IN);
        Check.due("the one waits no longer", web.waiting(0), 0);
        Check.due("and is held", web.has(0, hash), true);
    }

    /** Once the first has been dropped, by drop or as the first of six, the other one waits itself. */
    private static void droppedOneMakesRoom() {
        for (int turn = 0; turn < 2; turn++) {
            HashLinkedWeb web = new HashLinkedWeb();
            long root = Hashes.of(0, PUT, 0, 1);
            long hash = Hashes.of(1, ADD, 0, 2, root);
            long link = Hashes.linkFor(hash, 2, PUT, 7, 7);
            Check.due("the forged one waits", offer(web, 0, 2, PUT, 7, 7, link), WAITS);
            for (int i = 0; i < 5 && turn == 0; i++) {
                Check.due("one more waits", offer(web, 0, 3, PUT, 6, i, 77), WAITS);
            }
            if (turn == 1) {
                Check.due("drop", web.drop(0), 1);
            }
            Check.due("the real one waits", offer(web, 0, 1, ADD, 0, 2, root), WAITS);
            Check.due("what it waits for", offer(web, 0, 0, PUT, 0, 1), LET_IN);
            Check.due("it is held", web.has(0, hash), true);
            Check.due("value", web.value(0, 0), 3);
        }
    }

    /** The PUT of 1 waits; the PUT of 0 is let in here: when the former leaves, it is held. */
    private static void waitingOneLeavesAsHeld() {
        HashLinkedWeb web = new HashLinkedWeb();
        long addOf1 = Hashes.of(1, ADD, 1, ADD_OF_1);
        Check.due("the PUT of 1 waits", offer(web, 2, 1, PUT, 1, PUT_OF_1, addOf1), WAITS);
        long addOf0 = Offers.letIn(web, 2, 0, ADD, 1, ADD_OF_0);
        Check.due("the PUT of 0", offer(web, 2, 0, PUT, 1, PUT_OF_0, addOf0), LET_IN);
        Check.due("one waits", web.waiting(2), 1);
        Check.due("the ADD of 1", offer(web, 2, 1, ADD, 1, ADD_OF_1), LET_IN);
        Check.due("none waits", web.waiting(2), 0);
        Check.due("three are held", web.held(2), 3);
        Check.due("three in all", web.all(), 3);
        Check.due("value", web.value(2, 1), PUT_OF_0);
        Check.due("two heads", web.heads(2), 2);
    }

    /** The PUT of 1 waits; the PUT of 0 was let in elsewhere and its link is held here. */
    private static void waitingOneIsLetInAsTheKnownOne() {
        HashLinkedWeb web = new HashLinkedWeb();
        long addOf1 = Hashes.of(1, ADD, 1, ADD_OF_1);
        Check.due("the PUT of 1 waits", offer(web, 2, 1, PUT, 1, PUT_OF_1, addOf1), WAITS);
        web.write(0, ADD, 1, ADD_OF_0);
        Check.due("the PUT of 0", web.write(0, PUT, 1, PUT_OF_0), LET_IN);
        Check.due("the ADD of 0", offer(web, 2, 0, ADD, 1, ADD_OF_0), LET_IN);
        Check.due("the ADD of 1", offer(web, 2, 1, ADD, 1, ADD_OF_1), LET_IN);
        Check.due("none waits", web.waiting(2), 0);
        Check.due("let in", web.has(2, SHARED), true);
        Check.due("as that of 0", web.about(2, 2, 0), 0);
        Check.due("with the link of 0", web.linkAt(2, 2, 0), Hashes.of(0, ADD, 1, ADD_OF_0));
        Check.due("three in all", web.all(), 3);
    }

    private static void meetingSeesOneOperation() {
        HashLinkedWeb web = new HashLinkedWeb();
        web.write(1, ADD, 1, ADD_OF_1);
        web.write(1, PUT, 1, PUT_OF_1);
        web.write(0, ADD, 1, ADD_OF_0);
        Check.due("0 writes what 1 has let in", web.write(0, PUT, 1, PUT_OF_0), WAITS);
        Check.due("rounds", web.meet(0, 1), 2);
        Check.due("none waits", web.waiting(0), 0);
        Check.due("0 holds", web.held(0), 3);
        Check.due("1 holds", web.held(1), 3);
        Check.due("author", web.about(0, 2, 0), 1);
    }
}
