/** The terms: each answer of coming, the row of those that wait, what comes after, and the 41st. */
public final class ComingEdgesTest implements Terms {
    public static void main(String[] args) {
        Check.edge("at first none", ComingEdgesTest::nothingAtFirst);
        Check.edge("if it holds it already, nothing happens (HELD)", ComingEdgesTest::held);
        Check.edge("else if it is not in shape, nothing happens (WRONG)", ComingEdgesTest::notInShape);
        Check.edge("else if it is not in shape, nothing happens (WRONG)", ComingEdgesTest::shapeComesBeforeLinks);
        Check.edge("else if a link is not held", ComingEdgesTest::oneLinkOfFourIsNotHeld);
        Check.edge("else if a link is not held", ComingEdgesTest::linkThatOnlyWaits);
        Check.edge("else if a link is not held", ComingEdgesTest::waitsBeforeItIsWrong);
        Check.edge("it goes to the end of those that wait", ComingEdgesTest::goesToTheEnd);
        Check.edge("unless it waits already", ComingEdgesTest::waitsOnce);
        Check.edge("unless it waits already", ComingEdgesTest::keepsItsPlace);
        Check.edge("unless it waits already", ComingEdgesTest::dropsNoneByComingAgain);
        Check.edge("when there are 6 then, the first of them is dropped", ComingEdgesTest::sixthDropsTheFirst);
        Check.edge("when there are 6 then, the first of them is dropped", ComingEdgesTest::droppedOneMayWaitAnew);
        Check.edge("at most five stay", ComingEdgesTest::fiveStay);
        Check.edge("at most five stay", ComingEdgesTest::fiveAtEachReplica);
        Check.edge("else if it is not right, nothing happens (WRONG)", ComingEdgesTest::notRight);
        Check.edge("else the replica holds it from then on (LET IN)", ComingEdgesTest::letIn);
        Check.edge("as long as there is one among those that wait all whose links are held",
            ComingEdgesTest::allLinksMustBeHeld);
        Check.edge("as long as there is one among those that wait all whose links are held",
            ComingEdgesTest::fiveInARow);
        Check.edge("as long as there is one among those that wait all whose links are held",
            ComingEdgesTest::noneWhoseLinksAreHeld);
        Check.edge("as long as there is one among those that wait all whose links are held",
            ComingEdgesTest::rowsOfTwoReplicas);
        Check.edge("as long as there is one among those that wait all whose links are held",
            ComingEdgesTest::writtenOneIsWaitedFor);
        Check.edge("the first such leaves them", ComingEdgesTest::firstSuchLeaves);
        Check.edge("the first such leaves them", ComingEdgesTest::firstSuchAfterEachOne);
        Check.edge("comes likewise (being held, wrong or let in)", ComingEdgesTest::leavesAsWrong);
        Check.edge("comes likewise (being held, wrong or let in)", ComingEdgesTest::leavesAsLetIn);
        Check.edge("At most 40 different operations (by their hashes) are let in by all replicas together",
            ComingEdgesTest::fortyTogether);
        Check.edge("At most 40 different operations (by their hashes) are let in by all replicas together",
            ComingEdgesTest::sameOneCountsOnce);
        Check.edge("one that would be the 41st is not let in", ComingEdgesTest::the41st);
        Check.edge("one that would be the 41st is not let in", ComingEdgesTest::the41stThatWaited);
        Check.edge("one that would be the 41st is not let in", ComingEdgesTest::oneOfThe40Elsewhere);
        Check.edge("as if it were not right", ComingEdgesTest::the41stHasItsPlaceAmongTheAnswers);
        Check.finish();
    }

    private static int offer(HashLinkedWeb web, int replica, int author, int kind, int key, int value, long... links) {
        return Offers.offer(web, replica, author, kind, key, value, links);
    }

    /** What number waits for, and itself: an ADD to key 1 over a PUT of its own. */
    private static long below(int number) {
        return Hashes.of(3, PUT, 0, number);
    }

    private static long above(int number) {
        return Hashes.of(0, ADD, 1, number, below(number));
    }

    private static int offerBelow(HashLinkedWeb web, int replica, int number) {
        return offer(web, replica, 3, PUT, 0, number);
    }

    private static int offerAbove(HashLinkedWeb web, int replica, int number) {
        return offer(web, replica, 0, ADD, 1, number, below(number));
    }

    private static void letWait(HashLinkedWeb web, int replica, int from, int to) {
        for (int number = from; number <= to; number++) {
            Check.due("number " + number, offerAbove(web, replica, number), WAITS);
        }
    }

    /** Lets in what all of them wait for: those alone are held that were still in the row. */
    private static void dueInTheRow(HashLinkedWeb web, int replica, int count, int... inTheRow) {
        for (int number = 1; number <= count; number++) {
            Check.due("what number " + number + " waits for", offerBelow(web, replica, number), LET_IN);
            boolean due = false;
            for (int one : inTheRow) {
                due |= one == number;
            }
            Check.due("number " + number + " was in the row", web.has(replica, above(number)), due);
        }
        Check.due("the row is empty", web.waiting(replica), 0);
    }

    private static void nothingAtFirst() {
        HashLinkedWeb web = new HashLinkedWeb();
        for (int r = 0; r < 4; r++) {
            Check.due("held", web.held(r), 0);
            Check.due("waiting", web.waiting(r), 0);
            Check.due("drop", web.drop(r), 0);
        }
    }

    private static void held() {
        HashLinkedWeb web = new HashLinkedWeb();
        letWait(web, 0, 1, 1);
        long root = Offers.letIn(web, 0, 0, ADD, 0, 5);
        Offers.letIn(web, 0, 0, ADD, 0, 6, root);
        Check.due("the upper one again", web.offer(0), HELD);
        web.draft(0, ADD, 0, 5);
        String before = Readings.of(web);
        Check.due("the lower one again", web.offer(0), HELD);
        Check.due("nothing happened", before.equals(Readings.of(web)), true);
    }

    private static void notInShape() {
        HashLinkedWeb web = new HashLinkedWeb();
        letWait(web, 0, 1, 2);
        Offers.letIn(web, 0, 0, ADD, 0, 5);
        web.draft(0, ADD, 8, 5);
        String before = Readings.of(web);
        Check.due("key 8", web.offer(0), WRONG);
        Check.due("again", web.offer(0), WRONG);
        Check.due("nothing happened", before.equals(Readings.of(web)), true);
    }

    private static void shapeComesBeforeLinks() {
        HashLinkedWeb web = new HashLinkedWeb();
        Check.due("author 4, link not held", offer(web, 0, 4, PUT, 0, 0, 5), WRONG);
        Check.due("kind 4, link not held", offer(web, 0, 0, 4, 0, 0, 5), WRONG);
        Check.due("key 8, link not held", offer(web, 0, 0, PUT, 8, 0, 5), WRONG);
        Check.due("links that fall, not held", offer(web, 0, 0, PUT, 0, 0, 6, 5), WRONG);
        Check.due("none waits", web.waiting(0), 0);
        letWait(web, 0, 1, 5);
        Check.due("with a full row", offer(web, 0, 4, PUT, 0, 0, 5), WRONG);
        dueInTheRow(web, 0, 5, 1, 2, 3, 4, 5);
    }

    private static void oneLinkOfFourIsNotHeld() {
        for (int lacking = 0; lacking < 4; lacking++) {
            HashLinkedWeb web = new HashLinkedWeb();
            long[] links = new long[4];
            for (int i = 0; i < 4; i++) {
                links[i] = below(i);
            }
            links = Offers.growing(links);
            for (int i = 0; i < 4; i++) {
                if (below(i) != links[lacking]) {
                    Check.due("a link", offerBelow(web, 0, i), LET_IN);
                }
            }
            Check.due("link " + lacking + " is not held", offer(web, 0, 1, PUT, 1, 1, links), WAITS);
            Check.due("one waits", web.waiting(0), 1);
            Check.due("three are held", web.held(0), 3);
        }
    }

    private static void linkThatOnlyWaits() {
        HashLinkedWeb web = new HashLinkedWeb();
        letWait(web, 0, 1, 1);
        Check.due("over one that waits", offer(web, 0, 1, PUT, 1, 1, above(1)), WAITS);
        Check.due("two wait", web.waiting(0), 2);
    }

    private static void waitsBeforeItIsWrong() {
        HashLinkedWeb web = new HashLinkedWeb();
        long lock = Offers.letIn(web, 0, 0, LOCK, 2, 0);
        long[] links = Offers.growing(lock, below(1));
        Check.due("locked out, and a link is not held", offer(web, 0, 1, PUT, 2, 0, links), WAITS);
        Check.due("the link", offerBelow(web, 0, 1), LET_IN);
        Check.due("it left", web.waiting(0), 0);
        Check.due("as wrong", web.held(0), 2);
    }

    private static void goesToTheEnd() {
        HashLinkedWeb web = new HashLinkedWeb();
        letWait(web, 0, 1, 5);
        letWait(web, 0, 6, 8);
        dueInTheRow(web, 0, 8, 4, 5, 6, 7, 8);
    }

    private static void waitsOnce() {
        HashLinkedWeb web = new HashLinkedWeb();
        for (int i = 0; i < 7; i++) {
            letWait(web, 0, 1, 1);
            Check.due("one waits", web.waiting(0), 1);
        }
        Check.due("drop", web.drop(0), 1);
    }

    /** Had it gone to the end, the second would be dropped, not the first. */
    private static void keepsItsPlace() {
        HashLinkedWeb web = new HashLinkedWeb();
        letWait(web, 0, 1, 3);
        letWait(web, 0, 1, 1);
        letWait(web, 0, 4, 6);
        dueInTheRow(web, 0, 6, 2, 3, 4, 5, 6);
    }

    private static void dropsNoneByComingAgain() {
        HashLinkedWeb web = new HashLinkedWeb();
        letWait(web, 0, 1, 5);
        letWait(web, 0, 1, 5);
        Check.due("five wait", web.waiting(0), 5);
        dueInTheRow(web, 0, 5, 1, 2, 3, 4, 5);
    }

    private static void sixthDropsTheFirst() {
        HashLinkedWeb web = new HashLinkedWeb();
        letWait(web, 0, 1, 5);
        Check.due("with five none is dropped", web.waiting(0), 5);
        letWait(web, 0, 6, 6);
        Check.due("with six one is dropped", web.waiting(0), 5);
        dueInTheRow(web, 0, 6, 2, 3, 4, 5, 6);
    }

    private static void droppedOneMayWaitAnew() {
        HashLinkedWeb web = new HashLinkedWeb();
        letWait(web, 0, 1, 6);
        letWait(web, 0, 1, 1);
        Check.due("five wait", web.waiting(0), 5);
        dueInTheRow(web, 0, 6, 1, 3, 4, 5, 6);
    }

    private static void fiveStay() {
        HashLinkedWeb web = new HashLinkedWeb();
        for (int number = 1; number <= 15; number++) {
            letWait(web, 0, number, number);
            Check.due("waiting after " + number, web.waiting(0), Math.min(5, number));
        }
        dueInTheRow(web, 0, 15, 11, 12, 13, 14, 15);
    }

    private static void fiveAtEachReplica() {
        HashLinkedWeb web = new HashLinkedWeb();
        for (int r = 0; r < 4; r++) {
            letWait(web, r, 1, 5 + r);
        }
        for (int r = 0; r < 4; r++) {
            Check.due("waiting at " + r, web.waiting(r), 5);
        }
        dueInTheRow(web, 0, 5, 1, 2, 3, 4, 5);
        dueInTheRow(web, 3, 8, 4, 5, 6, 7, 8);
    }

    private static void notRight() {
        HashLinkedWeb web = new HashLinkedWeb();
        letWait(web, 0, 1, 1);
        long lock = Offers.letIn(web, 0, 0, LOCK, 2, 0);
        Offers.draft(web, 1, PUT, 2, 5, lock);
        String before = Readings.of(web);
        Check.due("locked out", web.offer(0), WRONG);
        Check.due("again", web.offer(0), WRONG);
        Check.due("nothing happened", before.equals(Readings.of(web)), true);
    }

    private static void letIn() {
        HashLinkedWeb web = new HashLinkedWeb();
        web.draft(1, ADD, 2, 5);
        Check.due("not held yet", web.has(0, web.draftHash()), false);
        Check.due("first", web.offer(0), LET_IN);
        Check.due("held", web.has(0, web.draftHash()), true);
        Check.due("one", web.held(0), 1);
        Check.due("others do not hold it", web.held(1) + web.held(2) + web.held(3), 0);
        web.drop(0);
        web.meet(0, 1);
        offerBelow(web, 0, 1);
        Check.due("held still", web.has(0, Hashes.of(1, ADD, 2, 5)), true);
    }

    private static void allLinksMustBeHeld() {
        HashLinkedWeb web = new HashLinkedWeb();
        long[] links = Offers.growing(below(1), below(2), below(3), below(4));
        Check.due("over four", offer(web, 0, 1, PUT, 1, 1, links), WAITS);
        for (int number = 1; number <= 3; number++) {
            offerBelow(web, 0, number);
            Check.due("with " + number + " of four it waits", web.waiting(0), 1);
        }
        offerBelow(web, 0, 4);
        Check.due("with four it waits no longer", web.waiting(0), 0);
        Check.due("and is held", web.held(0), 5);
    }

    private static void fiveInARow() {
        HashLinkedWeb web = new HashLinkedWeb();
        long[] row = new long[6];
        row[0] = Hashes.of(0, ADD, 0, 1);
        for (int i = 1; i < 6; i++) {
            row[i] = Hashes.of(0, ADD, 0, 1, row[i - 1]);
        }
        for (int i = 5; i >= 1; i--) {
            Check.due("number " + i, offer(web, 0, 0, ADD, 0, 1, row[i - 1]), WAITS);
        }
        Check.due("the first", offer(web, 0, 0, ADD, 0, 1), LET_IN);
        Check.due("none waits", web.waiting(0), 0);
        Check.due("six are held", web.held(0), 6);
        Check.due("one head", web.headAt(0, 0), row[5]);
    }

    private static void noneWhoseLinksAreHeld() {
        HashLinkedWeb web = new HashLinkedWeb();
        letWait(web, 0, 1, 3);
        Check.due("what none waits for", offerBelow(web, 0, 4), LET_IN);
        Check.due("three wait", web.waiting(0), 3);
        Check.due("what the second waits for", offerBelow(web, 0, 2), LET_IN);
        Check.due("two wait", web.waiting(0), 2);
        Check.due("three are held", web.held(0), 3);
    }

    private static void rowsOfTwoReplicas() {
        HashLinkedWeb web = new HashLinkedWeb();
        letWait(web, 0, 1, 1);
        letWait(web, 1, 1, 1);
        Check.due("what it waits for, at 0", offerBelow(web, 0, 1), LET_IN);
        Check.due("none waits at 0", web.waiting(0), 0);
        Check.due("one waits at 1", web.waiting(1), 1);
        Check.due("1 holds nothing", web.held(1), 0);
        Check.due("what it waits for, at 1", offerBelow(web, 1, 1), LET_IN);
        Check.due("none waits at 1", web.waiting(1), 0);
        Check.due("two in all", web.all(), 2);
    }

    private static void writtenOneIsWaitedFor() {
        HashLinkedWeb web = new HashLinkedWeb();
        letWait(web, 3, 1, 1);
        Check.due("3 writes what it waits for", web.write(3, PUT, 0, 1), LET_IN);
        Check.due("none waits", web.waiting(3), 0);
        Check.due("it is held", web.has(3, above(1)), true);
    }

    /** Places are left for the one that is waited for and for one more. */
    private static void firstSuchLeaves() {
        HashLinkedWeb web = new HashLinkedWeb();
        for (int value = 1; value <= 5; value++) {
            Check.due("number " + value, offer(web, 0, 0, ADD, 1, value, below(1)), WAITS);
        }
        Offers.fill(web, 1, 38);
        Check.due("what all wait for", offerBelow(web, 0, 1), LET_IN);
        for (int value = 1; value <= 5; value++) {
            Check.due("held " + value, web.has(0, Hashes.of(0, ADD, 1, value, below(1))), value == 1);
        }
        Check.due("none waits", web.waiting(0), 0);
    }

    /**
     * The second and the third wait for the same one, the first for the second. With places for two
     * more, the second leaves, then the first such is the first, and the third finds no place.
     */
    private static void firstSuchAfterEachOne() {
        HashLinkedWeb web = new HashLinkedWeb();
        long second = Hashes.of(0, ADD, 1, 2, below(1));
        long first = Hashes.of(0, ADD, 1, 1, second);
        long third = Hashes.of(0, ADD, 1, 3, below(1));
        Check.due("the first", offer(web, 0, 0, ADD, 1, 1, second), WAITS);
        Check.due("the second", offer(web, 0, 0, ADD, 1, 2, below(1)), WAITS);
        Check.due("the third", offer(web, 0, 0, ADD, 1, 3, below(1)), WAITS);
        Offers.fill(web, 1, 37);
        Check.due("what two wait for", offerBelow(web, 0, 1), LET_IN);
        Check.due("the second is held", web.has(0, second), true);
        Check.due("the first is held", web.has(0, first), true);
        Check.due("the third is not", web.has(0, third), false);
        Check.due("none waits", web.waiting(0), 0);
    }

    private static void leavesAsWrong() {
        HashLinkedWeb web = new HashLinkedWeb();
        long lock = Hashes.of(0, LOCK, 2, 0);
        Check.due("one that will be locked out", offer(web, 0, 1, PUT, 2, 5, lock), WAITS);
        letWait(web, 0, 1, 1);
        Check.due("the LOCK", offer(web, 0, 0, LOCK, 2, 0), LET_IN);
        Check.due("it left, the other waits", web.waiting(0), 1);
        Check.due("the LOCK alone is held", web.held(0), 1);
        Check.due("one in all", web.all(), 1);
        offer(web, 0, 0, FREE, 2, 0, lock);
        Check.due("it does not come again", web.held(0), 2);
    }

    private static void leavesAsLetIn() {
        HashLinkedWeb web = new HashLinkedWeb();
        letWait(web, 0, 1, 1);
        Check.due("what it waits for", offerBelow(web, 0, 1), LET_IN);
        Check.due("held", web.has(0, above(1)), true);
        Check.due("offered again", offerAbove(web, 0, 1), HELD);
        Check.due("two in all", web.all(), 2);
    }

    private static void fortyTogether() {
        HashLinkedWeb web = new HashLinkedWeb();
        for (int i = 0; i < 40; i++) {
            Check.due("number " + i, web.write(i % 4, ADD, 0, 1), LET_IN);
            Check.due("all", web.all(), i + 1);
        }
        for (int r = 0; r < 4; r++) {
            Check.due("one more at " + r, web.write(r, ADD, 0, 1), WRONG);
            Check.due("held at " + r, web.held(r), 10);
        }
        Check.due("all", web.all(), 40);
    }

    private static void sameOneCountsOnce() {
        HashLinkedWeb web = new HashLinkedWeb();
        Offers.fill(web, 0, 20);
        for (int r = 1; r < 4; r++) {
            web.meet(0, r);
        }
        Check.due("held by each of four", web.all(), 20);
        Offers.fill(web, 1, 20);
        Check.due("all", web.all(), 40);
        Check.due("one more", web.write(1, ADD, 0, 1), WRONG);
    }

    private static void the41st() {
        HashLinkedWeb web = new HashLinkedWeb();
        Offers.fill(web, 0, 39);
        long head = Offers.letIn(web, 0, 2, PUT, 3, 4);
        Check.due("written where much is held", web.write(0, PUT, 3, 5), WRONG);
        Check.due("written where nothing is held", web.write(1, PUT, 3, 5), WRONG);
        Check.due("offered with a link", offer(web, 0, 0, PUT, 3, 5, head), WRONG);
        Check.due("offered without", offer(web, 2, 0, PUT, 3, 5), WRONG);
        Check.due("held at 0", web.held(0), 40);
        Check.due("heads at 0", web.heads(0), 2);
        Check.due("value at 0", web.value(0, 3), 4);
        Check.due("held at 1 and 2", web.held(1) + web.held(2), 0);
        Check.due("none waits", web.waiting(0) + web.waiting(1) + web.waiting(2), 0);
        Check.due("all", web.all(), 40);
    }

    private static void the41stThatWaited() {
        HashLinkedWeb web = new HashLinkedWeb();
        letWait(web, 0, 1, 2);
        Offers.fill(web, 1, 39);
        Check.due("the 40th is waited for", offerBelow(web, 0, 1), LET_IN);
        Check.due("what waited is not let in", web.has(0, above(1)), false);
        Check.due("it left", web.waiting(0), 1);
        Check.due("what the other waits for", offerBelow(web, 0, 2), WRONG);
        Check.due("the other waits", web.waiting(0), 1);
    }

    private static void oneOfThe40Elsewhere() {
        HashLinkedWeb web = new HashLinkedWeb();
        Check.due("the first", offerBelow(web, 0, 1), LET_IN);
        Offers.fill(web, 1, 39);
        Check.due("offered to 2", offerBelow(web, 2, 1), LET_IN);
        Check.due("written by 3, its author", web.write(3, PUT, 0, 1), LET_IN);
        Check.due("again", offerBelow(web, 2, 1), HELD);
        Check.due("brought by a meeting", web.meet(1, 0), 39);
        Check.due("held at 0", web.held(0), 40);
        Check.due("held at 1", web.held(1), 40);
        Check.due("all", web.all(), 40);
    }

    private static void the41stHasItsPlaceAmongTheAnswers() {
        HashLinkedWeb web = new HashLinkedWeb();
        Offers.fill(web, 0, 39);
        Check.due("the 40th", offerBelow(web, 0, 1), LET_IN);
        Check.due("one that is held", web.offer(0), HELD);
        Check.due("not in shape, link not held", offer(web, 0, 4, PUT, 0, 0, 5), WRONG);
        Check.due("link not held", offerAbove(web, 1, 1), WAITS);
        Check.due("the link", offerBelow(web, 1, 1), LET_IN);
        Check.due("what waited left", web.waiting(1), 0);
        Check.due("as wrong", web.held(1), 1);
    }
}
