/** Promise 7: meet. */
public final class MeetingTest {
    private static final int PUT = 0;
    private static final int ADD = 1;
    private static final int[] NO_REPLICAS = {-1, 4, 5, Integer.MIN_VALUE, Integer.MAX_VALUE};

    public static void main(String[] args) {
        meetOfNobody();
        nothingToAskTakesNoRound();
        chainTakesARoundEach();
        bothSidesAskAtOnce();
        onlyWhatIsLackingIsAsked();
        shortestWayCounts();
        whatWaitsComesWithTheMeeting();
        firstAThenB();
        meetingComesInOrder();
        whatWaitsIsNotGiven();
        Check.finish();
    }

    private static void meetOfNobody() {
        HashLinkedWeb web = new HashLinkedWeb();
        web.write(0, PUT, 0, 1);
        for (int r : NO_REPLICAS) {
            Check.due("meet(0, " + r + ")", web.meet(0, r), HashLinkedWeb.NONE);
            Check.due("meet(" + r + ", 0)", web.meet(r, 0), HashLinkedWeb.NONE);
            Check.due("meet(" + r + ", " + r + ")", web.meet(r, r), HashLinkedWeb.NONE);
        }
        for (int r = 0; r < 4; r++) {
            Check.due("meet(" + r + ", " + r + ")", web.meet(r, r), HashLinkedWeb.NONE);
        }
    }

    private static void nothingToAskTakesNoRound() {
        HashLinkedWeb web = new HashLinkedWeb();
        Check.due("two empty ones", web.meet(0, 3), 0);
        web.write(0, PUT, 0, 1);
        Check.due("one with one", web.meet(3, 0), 1);
        Check.due("again", web.meet(3, 0), 0);
        Check.due("the other way round", web.meet(0, 3), 0);
        Check.due("others do not hear of it", web.held(1), 0);
    }

    private static void chainTakesARoundEach() {
        HashLinkedWeb web = new HashLinkedWeb();
        for (int i = 0; i < 40; i++) {
            web.write(2, ADD, 0, 1);
        }
        Check.due("chain of 40", web.meet(1, 2), 40);
        Check.due("chain: held", web.held(1), 40);
        Check.due("chain: value", web.value(1, 0), 40);
        Check.due("chain: the other way", web.meet(2, 0), 40);
        Check.due("chain: held there", web.held(0), 40);
        Check.due("nothing new in all", web.all(), 40);
    }

    private static void bothSidesAskAtOnce() {
        HashLinkedWeb web = new HashLinkedWeb();
        for (int i = 0; i < 3; i++) {
            web.write(0, ADD, 0, 1);
        }
        for (int i = 0; i < 5; i++) {
            web.write(1, ADD, 0, 10);
        }
        Check.due("three and five", web.meet(0, 1), 5);
        Check.due("a holds", web.held(0), 8);
        Check.due("b holds", web.held(1), 8);
        Check.due("a value", web.value(0, 0), 53);
        Check.due("b value", web.value(1, 0), 53);
        Check.due("two heads", web.heads(0), 2);
    }

    private static void onlyWhatIsLackingIsAsked() {
        HashLinkedWeb web = new HashLinkedWeb();
        for (int i = 0; i < 6; i++) {
            web.write(0, ADD, 0, 1);
        }
        web.meet(0, 1);
        web.write(0, ADD, 0, 1);
        web.write(0, ADD, 0, 1);
        Check.due("two more", web.meet(0, 1), 2);
        Check.due("two more: held", web.held(1), 8);
    }

    /** The head links to one long and one short way to the same root; the root is told at its shortest. */
    private static void shortestWayCounts() {
        HashLinkedWeb web = new HashLinkedWeb();
        Offers.offer(web, 0, 0, PUT, 0, 0);
        long root = web.draftHash();
        Offers.offer(web, 0, 1, PUT, 0, 1, root);
        long first = web.draftHash();
        Offers.offer(web, 0, 1, PUT, 0, 2, first);
        long second = web.draftHash();
        Offers.offer(web, 0, 2, PUT, 0, 3, root);
        long beside = web.draftHash();
        web.write(0, PUT, 0, 4);
        Check.due("two links", web.about(0, 4, 4), 2);
        Check.due("depth of the head", web.about(0, 4, 5), 4);
        // 1: the head. 2: second, beside. 3: first, root. Nothing is left to ask.
        Check.due("rounds", web.meet(0, 1), 3);
        Check.due("all held", web.held(1), 5);
        Check.due("each of them", web.has(1, root) && web.has(1, first) && web.has(1, second)
            && web.has(1, beside), true);
    }

    private static void whatWaitsComesWithTheMeeting() {
        HashLinkedWeb web = new HashLinkedWeb();
        web.write(0, ADD, 0, 1);
        web.write(0, ADD, 0, 2);
        long top = web.headAt(0, 0);
        Offers.offer(web, 1, 3, ADD, 0, 100, top);
        long waiting = web.draftHash();
        Check.due("waits before", web.waiting(1), 1);
        Check.due("rounds", web.meet(1, 0), 2);
        Check.due("none waits", web.waiting(1), 0);
        Check.due("it is held", web.has(1, waiting), true);
        Check.due("a has it alone", web.has(0, waiting), false);
        Check.due("value", web.value(1, 0), 103);
        Check.due("the next meeting", web.meet(0, 1), 1);
        Check.due("brings it", web.has(0, waiting), true);
    }

    /** With one place left, who comes first gets it. */
    private static void firstAThenB() {
        for (int turn = 0; turn < 2; turn++) {
            HashLinkedWeb web = new HashLinkedWeb();
            web.write(0, PUT, 0, 1);
            web.write(1, PUT, 0, 2);
            long of0 = web.headAt(0, 0);
            long of1 = web.headAt(1, 0);
            for (int i = 0; i < 37; i++) {
                web.write(2, ADD, 0, 1);
            }
            Check.due("39 so far", web.all(), 39);
            Offers.offer(web, 0, 3, PUT, 5, 5, of1);
            long at0 = web.draftHash();
            Offers.offer(web, 1, 3, PUT, 5, 6, of0);
            long at1 = web.draftHash();
            Check.due("rounds", turn == 0 ? web.meet(0, 1) : web.meet(1, 0), 1);
            Check.due("0 let its one in", web.has(0, at0), turn == 0);
            Check.due("1 let its one in", web.has(1, at1), turn == 1);
            Check.due("none waits at 0", web.waiting(0), 0);
            Check.due("none waits at 1", web.waiting(1), 0);
        }
    }

    /** Two roots come; one waits for each. With one place left the root of the lesser hash decides. */
    private static void meetingComesInOrder() {
        HashLinkedWeb web = new HashLinkedWeb();
        Offers.offer(web, 0, 0, PUT, 0, 1);
        Offers.offer(web, 0, 0, PUT, 0, 2);
        long lesser = web.hashAt(0, 0);
        long greater = web.hashAt(0, 1);
        Check.due("in order", lesser < greater, true);
        for (int i = 0; i < 37; i++) {
            web.write(2, ADD, 0, 1);
        }
        Offers.offer(web, 1, 3, PUT, 5, 5, greater);
        Offers.offer(web, 1, 3, PUT, 5, 6, lesser);
        long onLesser = web.draftHash();
        Check.due("rounds", web.meet(1, 0), 1);
        Check.due("held", web.held(1), 3);
        Check.due("the one on the lesser", web.has(1, onLesser), true);
        depthComesBeforeHash();
    }

    /** A deep operation of a lesser hash comes behind a root of a greater one. */
    private static void depthComesBeforeHash() {
        HashLinkedWeb web = new HashLinkedWeb();
        web.write(0, PUT, 0, 1);
        long root = web.headAt(0, 0);
        int value = 0;
        while (Hashes.of(1, PUT, 0, value, root) >= root) {
            value++;
        }
        Offers.offer(web, 0, 1, PUT, 0, value, root);
        long deep = web.draftHash();
        int other = 0;
        while (Hashes.of(2, PUT, 0, other) <= deep) {
            other++;
        }
        Offers.offer(web, 0, 2, PUT, 0, other);
        long wide = web.draftHash();
        for (int i = 0; i < 36; i++) {
            web.write(2, ADD, 0, 1);
        }
        Offers.offer(web, 1, 3, PUT, 5, 5, deep);
        Offers.offer(web, 1, 3, PUT, 5, 6, wide);
        long onWide = web.draftHash();
        Check.due("39 so far", web.all(), 39);
        Check.due("rounds", web.meet(1, 0), 2);
        Check.due("the one on the root", web.has(1, onWide), true);
        Check.due("the other one is wrong", web.held(1), 4);
    }

    private static void whatWaitsIsNotGiven() {
        HashLinkedWeb web = new HashLinkedWeb();
        Offers.offer(web, 0, 0, PUT, 0, 1, 5);
        Check.due("rounds", web.meet(0, 1), 0);
        Check.due("waits at 0", web.waiting(0), 1);
        Check.due("does not wait at 1", web.waiting(1), 0);
    }
}
