/** The terms: meeting, with nothing to ask on one side or on both, and over several rounds. */
public final class MeetingEdgesTest implements Terms {
    public static void main(String[] args) {
        Check.edge("The meeting ends when neither asks", MeetingEdgesTest::bothHoldNothing);
        Check.edge("The meeting ends when neither asks", MeetingEdgesTest::bothHoldTheSame);
        Check.edge("The meeting ends when neither asks", MeetingEdgesTest::onlyOneAsks);
        Check.edge("The meeting ends when neither asks", MeetingEdgesTest::oneHoldsAllOfTheOther);
        Check.edge("The meeting ends when neither asks", MeetingEdgesTest::oneEndsSooner);
        Check.edge("in each of which both at once ask", MeetingEdgesTest::bothAtOnce);
        Check.edge("ask for all hashes that they were told", MeetingEdgesTest::allHeadsInOneRound);
        Check.edge("neither hold nor have got in this meeting", MeetingEdgesTest::whatIsHeldIsNotAsked);
        Check.edge("neither hold nor have got in this meeting", MeetingEdgesTest::gotByTwoWays);
        Check.edge("at first those of the heads, later also the links of what they have got",
            MeetingEdgesTest::fortyRounds);
        Check.edge("at first those of the heads, later also the links of what they have got",
            MeetingEdgesTest::gapInTheMidst);
        Check.edge("the other one gives each operation that it holds", MeetingEdgesTest::whatWaitsIsNotGiven);
        Check.edge("Then what each has got comes to it", MeetingEdgesTest::bothHoldAll);
        Check.edge("Then what each has got comes to it", MeetingEdgesTest::whatWaitsForItComes);
        Check.edge("Then what each has got comes to it", MeetingEdgesTest::whatComesThenIsNotGivenInThisMeeting);
        Check.edge("Then what each has got comes to it", MeetingEdgesTest::othersGetNothing);
        Check.edge("first to a, then to b", MeetingEdgesTest::firstToA);
        Check.edge("by depth as it is with the other one", MeetingEdgesTest::byDepth);
        Check.edge("of the same depth by hash", MeetingEdgesTest::byHash);
        Check.finish();
    }

    private static void dueHeld(HashLinkedWeb web, int... due) {
        for (int r = 0; r < due.length; r++) {
            Check.due("held at " + r, web.held(r), due[r]);
        }
    }

    private static void bothHoldNothing() {
        HashLinkedWeb web = new HashLinkedWeb();
        for (int a = 0; a < 4; a++) {
            for (int b = 0; b < 4; b++) {
                Check.due("meet(" + a + ", " + b + ")", web.meet(a, b), a == b ? NONE : 0);
            }
        }
        dueHeld(web, 0, 0, 0, 0);
    }

    private static void bothHoldTheSame() {
        HashLinkedWeb web = new HashLinkedWeb();
        for (int r = 0; r < 2; r++) {
            long root = Offers.letIn(web, r, 0, PUT, 0, 1);
            Offers.letIn(web, r, 0, PUT, 0, 2, root);
            Offers.letIn(web, r, 1, PUT, 0, 3);
        }
        Check.due("meet(0, 1)", web.meet(0, 1), 0);
        Check.due("meet(1, 0)", web.meet(1, 0), 0);
        dueHeld(web, 3, 3, 0, 0);
    }

    private static void onlyOneAsks() {
        for (int turn = 0; turn < 2; turn++) {
            HashLinkedWeb web = new HashLinkedWeb();
            Offers.fill(web, 0, 3);
            Check.due("with one that holds nothing", turn == 0 ? web.meet(0, 1) : web.meet(1, 0), 3);
            dueHeld(web, 3, 3, 0, 0);
            Check.due("again", turn == 0 ? web.meet(0, 1) : web.meet(1, 0), 0);
        }
    }

    private static void oneHoldsAllOfTheOther() {
        for (int turn = 0; turn < 2; turn++) {
            HashLinkedWeb web = new HashLinkedWeb();
            Offers.fill(web, 0, 3);
            web.meet(0, 1);
            Offers.fill(web, 1, 2);
            Check.due("rounds", turn == 0 ? web.meet(0, 1) : web.meet(1, 0), 2);
            dueHeld(web, 5, 5, 0, 0);
        }
    }

    private static void oneEndsSooner() {
        for (int turn = 0; turn < 2; turn++) {
            HashLinkedWeb web = new HashLinkedWeb();
            Offers.fill(web, 0, 1);
            Offers.fill(web, 1, 6);
            Check.due("rounds", turn == 0 ? web.meet(0, 1) : web.meet(1, 0), 6);
            dueHeld(web, 7, 7, 0, 0);
        }
    }

    private static void bothAtOnce() {
        HashLinkedWeb web = new HashLinkedWeb();
        Offers.fill(web, 0, 4);
        Offers.fill(web, 1, 4);
        Check.due("rounds", web.meet(0, 1), 4);
        dueHeld(web, 8, 8, 0, 0);
    }

    private static void allHeadsInOneRound() {
        HashLinkedWeb web = new HashLinkedWeb();
        for (int value = 0; value < 40; value++) {
            Offers.letIn(web, 0, 0, PUT, 0, value);
        }
        Check.due("40 heads", web.meet(1, 0), 1);
        dueHeld(web, 40, 40, 0, 0);
    }

    /** Head of the one is far below the heads of the other, and nothing below it is asked for. */
    private static void whatIsHeldIsNotAsked() {
        HashLinkedWeb web = new HashLinkedWeb();
        Offers.fill(web, 0, 10);
        web.meet(0, 1);
        Offers.fill(web, 0, 1);
        Check.due("one more", web.meet(0, 1), 1);
        Offers.fill(web, 0, 1);
        Offers.fill(web, 1, 1);
        Check.due("one more each", web.meet(0, 1), 1);
        dueHeld(web, 13, 13, 0, 0);
        Check.due("two heads", web.heads(0), 2);
    }

    /** The root is a link of the head's one link and of the other's link: it is got by the shorter way. */
    private static void gotByTwoWays() {
        HashLinkedWeb web = new HashLinkedWeb();
        long root = Offers.letIn(web, 0, 0, PUT, 0, 0);
        long near = Offers.letIn(web, 0, 0, PUT, 0, 1, root);
        long low = Offers.letIn(web, 0, 0, PUT, 0, 2, root);
        long high = Offers.letIn(web, 0, 0, PUT, 0, 3, low);
        Offers.letIn(web, 0, 0, PUT, 0, 4, Offers.growing(near, high));
        // The head; near and high; root and low; the root is got by then.
        Check.due("rounds", web.meet(0, 1), 3);
        dueHeld(web, 5, 5, 0, 0);
    }

    private static void fortyRounds() {
        HashLinkedWeb web = new HashLinkedWeb();
        Offers.fill(web, 0, 40);
        Check.due("rounds", web.meet(3, 0), 40);
        dueHeld(web, 40, 0, 0, 40);
        Check.due("value", web.value(3, 7), 40);
    }

    /** One holds some of the heads' past already: the way down stops there, and goes on beside it. */
    private static void gapInTheMidst() {
        HashLinkedWeb web = new HashLinkedWeb();
        long root = Offers.letIn(web, 0, 0, PUT, 0, 0);
        Offers.letIn(web, 1, 0, PUT, 0, 0);
        long left = Offers.letIn(web, 0, 0, PUT, 0, 1, root);
        Offers.letIn(web, 1, 0, PUT, 0, 1, root);
        long other = Offers.letIn(web, 0, 1, PUT, 0, 2);
        long right = Offers.letIn(web, 0, 1, PUT, 0, 3, other);
        Offers.letIn(web, 0, 1, PUT, 0, 4, Offers.growing(left, right));
        Check.due("rounds", web.meet(1, 0), 3);
        dueHeld(web, 5, 5, 0, 0);
    }

    private static void whatWaitsIsNotGiven() {
        HashLinkedWeb web = new HashLinkedWeb();
        Offers.fill(web, 0, 1);
        Check.due("one waits at 0", Offers.offer(web, 0, 0, PUT, 0, 1, 5), WAITS);
        Check.due("rounds", web.meet(0, 1), 1);
        Check.due("waiting at 0", web.waiting(0), 1);
        Check.due("waiting at 1", web.waiting(1), 0);
        dueHeld(web, 1, 1, 0, 0);
    }

    private static void bothHoldAll() {
        HashLinkedWeb web = new HashLinkedWeb();
        for (int r = 0; r < 2; r++) {
            web.write(r, PUT, 0, r);
            web.write(r, ADD, 0, 10 + r);
        }
        web.meet(0, 1);
        Check.due("held", web.held(0), 4);
        for (int k = 0; k < 4; k++) {
            Check.due("at " + k, web.hashAt(0, k), web.hashAt(1, k));
        }
        Check.due("heads", web.heads(0), 2);
        for (int k = 0; k < 2; k++) {
            Check.due("head " + k, web.headAt(0, k), web.headAt(1, k));
        }
        Check.due("value", web.value(0, 0), web.value(1, 0));
    }

    private static void whatWaitsForItComes() {
        for (int turn = 0; turn < 2; turn++) {
            HashLinkedWeb web = new HashLinkedWeb();
            Offers.fill(web, 0, 2);
            long head = web.headAt(0, 0);
            Check.due("over the head", Offers.offer(web, 1, 2, PUT, 0, 5, head), WAITS);
            Check.due("rounds", turn == 0 ? web.meet(0, 1) : web.meet(1, 0), 2);
            Check.due("none waits", web.waiting(1), 0);
            dueHeld(web, 2, 3, 0, 0);
        }
    }

    /** What a lets in because of the meeting was not there when b asked. */
    private static void whatComesThenIsNotGivenInThisMeeting() {
        HashLinkedWeb web = new HashLinkedWeb();
        Offers.fill(web, 1, 1);
        Check.due("waits at 0", Offers.offer(web, 0, 2, PUT, 0, 5, web.headAt(1, 0)), WAITS);
        Check.due("rounds", web.meet(0, 1), 1);
        dueHeld(web, 2, 1, 0, 0);
        Check.due("the next meeting", web.meet(0, 1), 1);
        dueHeld(web, 2, 2, 0, 0);
    }

    private static void othersGetNothing() {
        HashLinkedWeb web = new HashLinkedWeb();
        Offers.fill(web, 1, 2);
        web.meet(1, 2);
        dueHeld(web, 0, 2, 2, 0);
    }

    /** One place is left, and one waits at each of the two for what the other gives. */
    private static void firstToA() {
        for (int turn = 0; turn < 2; turn++) {
            HashLinkedWeb web = new HashLinkedWeb();
            long of0 = Offers.letIn(web, 0, 0, PUT, 0, 1);
            long of1 = Offers.letIn(web, 1, 1, PUT, 0, 2);
            Offers.fill(web, 3, 37);
            Check.due("waits at 0", Offers.offer(web, 0, 2, PUT, 1, 1, of1), WAITS);
            Check.due("waits at 1", Offers.offer(web, 1, 2, PUT, 1, 1, of0), WAITS);
            Check.due("rounds", turn == 0 ? web.meet(0, 1) : web.meet(1, 0), 1);
            Check.due("held at 0", web.held(0), turn == 0 ? 3 : 2);
            Check.due("held at 1", web.held(1), turn == 0 ? 2 : 3);
            Check.due("none waits", web.waiting(0) + web.waiting(1), 0);
        }
    }

    /** One place is left for what waits over the deeper or over the less deep; its hash is greater. */
    private static void byDepth() {
        HashLinkedWeb web = new HashLinkedWeb();
        long root = Offers.letIn(web, 0, 0, PUT, 0, 1);
        int value = 0;
        while (Hashes.of(0, PUT, 0, value, root) >= root) {
            value++;
        }
        long deep = Offers.letIn(web, 0, 0, PUT, 0, value, root);
        Offers.fill(web, 3, 37);
        Check.due("the deep one has the lesser hash", deep < root, true);
        Check.due("over the deep one", Offers.offer(web, 1, 2, PUT, 1, 1, deep), WAITS);
        Check.due("over the root", Offers.offer(web, 1, 2, PUT, 1, 1, root), WAITS);
        web.meet(1, 0);
        Check.due("the one over the root", web.has(1, Hashes.of(2, PUT, 1, 1, root)), true);
        Check.due("the one over the deep one", web.has(1, Hashes.of(2, PUT, 1, 1, deep)), false);
        dueHeld(web, 2, 3, 0, 37);
    }

    private static void byHash() {
        HashLinkedWeb web = new HashLinkedWeb();
        long[] roots = Offers.growing(Offers.letIn(web, 0, 0, PUT, 0, 1), Offers.letIn(web, 0, 0, PUT, 0, 2));
        Offers.fill(web, 3, 37);
        Check.due("over the greater", Offers.offer(web, 1, 2, PUT, 1, 1, roots[1]), WAITS);
        Check.due("over the lesser", Offers.offer(web, 1, 2, PUT, 1, 1, roots[0]), WAITS);
        web.meet(1, 0);
        Check.due("the one over the lesser", web.has(1, Hashes.of(2, PUT, 1, 1, roots[0])), true);
        Check.due("the one over the greater", web.has(1, Hashes.of(2, PUT, 1, 1, roots[1])), false);
        dueHeld(web, 2, 3, 0, 37);
    }
}
