import java.util.ArrayList;
import java.util.Arrays;
import java.util.List;
import java.util.Random;

/** Runs of calls drawn from fixed seeds, each call asked of the class and of the plain model. */
public final class ModelTest {
    private static final int RUNS = 3000;
    // A last step may ask for some ten more; 512 is the most that an object is used for.
    private static final int CALLS = 500;

    private final int run;
    private final Random random;
    private final int oddity;
    private final HashLinkedWeb web = new HashLinkedWeb();
    private final Model model = new Model();
    private final List<Long> hashes = new ArrayList<>();
    private final List<Object[]> drafts = new ArrayList<>();
    private int calls = 0;

    private ModelTest(int run) {
        this.run = run;
        random = new Random(run);
        // Some runs hardly ever have a wrong argument, so that much is let in; others have many.
        oddity = new int[] {200, 40, 8}[run % 3];
    }

    public static void main(String[] args) {
        for (int run = 0; run < RUNS; run++) {
            ModelTest test = new ModelTest(run);
            while (test.calls < CALLS) {
                test.step();
            }
        }
        Check.finish();
    }

    private void due(String call, long got, long want) {
        calls++;
        Check.due("run " + run + ", call " + calls + ": " + call, got, want);
    }

    private int number(int bound) {
        if (random.nextInt(oddity) == 0) {
            int[] odd = {-1, bound, Integer.MIN_VALUE, Integer.MAX_VALUE, bound + 1};
            return odd[random.nextInt(odd.length)];
        }
        return random.nextInt(bound);
    }

    private int amount() {
        int[] edges = {0, 1, -1, Integer.MAX_VALUE, Integer.MIN_VALUE};
        return random.nextInt(4) == 0 ? edges[random.nextInt(edges.length)] : random.nextInt(100);
    }

    private long someHash() {
        if (hashes.isEmpty() || random.nextInt(20) == 0) {
            return random.nextInt(3) == 0 ? random.nextInt(3) - 1 : random.nextLong();
        }
        int back = random.nextInt(Math.min(hashes.size(), random.nextBoolean() ? 6 : 40));
        return hashes.get(hashes.size() - 1 - back);
    }

    private void step() {
        switch (random.nextInt(12)) {
            case 0, 1 -> write();
            case 2, 3 -> newDraft();
            case 4 -> oldDraft();
            case 5, 6 -> offer(number(4));
            case 7 -> meet();
            case 8 -> forge();
            case 9 -> drop();
            default -> read();
        }
    }

    private void write() {
        int r = number(4);
        int kind = number(4);
        // Few keys, so that locks are met.
        int key = random.nextInt(3) == 0 ? number(8) : 1;
        int value = amount();
        due("write(" + r + ", " + kind + ", " + key + ", " + value + ")",
            web.write(r, kind, key, value), model.write(r, kind, key, value));
        if (r >= 0 && r < 4) {
            hashes.add(model.headAt(r, random.nextInt(5)));
        }
    }

    private void setDraft(int[] numbers, long[] links) {
        web.draft(numbers[0], numbers[1], numbers[2], numbers[3]);
        model.draft(numbers[0], numbers[1], numbers[2], numbers[3]);
        calls++;
        for (long link : links) {
            due("link(" + link + ")", web.link(link) ? 1 : 0, model.link(link) ? 1 : 0);
        }
        due("draftHash()", web.draftHash(), model.draftHash());
        hashes.add(model.draftHash());
    }

    private void newDraft() {
        int[] numbers = {number(4), number(4), random.nextInt(3) == 0 ? number(8) : 1, amount()};
        long[] links = new long[random.nextInt(random.nextInt(10) == 0 ? 6 : 4)];
        for (int j = 0; j < links.length; j++) {
            links[j] = someHash();
        }
        if (random.nextInt(oddity) != 0) {
            links = Arrays.stream(links).distinct().sorted().toArray();
        }
        setDraft(numbers, links);
        drafts.add(new Object[] {numbers, links});
        if (random.nextBoolean()) {
            offer(number(4));
        }
    }

    private void oldDraft() {
        if (!drafts.isEmpty()) {
            Object[] one = drafts.get(drafts.size() - 1 - random.nextInt(Math.min(12, drafts.size())));
            setDraft((int[]) one[0], (long[]) one[1]);
            offer(number(4));
        }
    }

    /** An operation under the hash of another one. */
    private void forge() {
        if (random.nextInt(3) == 0) {
            int[] numbers = {number(4), number(4), number(8), amount()};
            long link = Hashes.linkFor(someHash(), numbers[0], numbers[1], numbers[2], numbers[3]);
            setDraft(numbers, new long[] {link});
            offer(number(4));
        }
    }

    private void offer(int r) {
        due("offer(" + r + ")", web.offer(r), model.offer(r));
        due("waiting(" + r + ")", web.waiting(r), model.waiting(r));
        due("held(" + r + ")", web.held(r), model.held(r));
    }

    private void meet() {
        if (random.nextInt(3) == 0) {
            int a = number(4);
            int b = number(4);
            due("meet(" + a + ", " + b + ")", web.meet(a, b), model.meet(a, b));
        }
    }

    private void drop() {
        if (random.nextInt(6) == 0) {
            int r = number(4);
            due("drop(" + r + ")", web.drop(r), model.drop(r));
        }
    }

    private void read() {
        int r = number(4);
        int k = number(Math.max(1, model.held(r)));
        int j = number(4);
        int key = number(8);
        int what = number(6);
        long hash = someHash();
        due("held(" + r + ")", web.held(r), model.held(r));
        due("waiting(" + r + ")", web.waiting(r), model.waiting(r));
        due("has(" + r + ", " + hash + ")", web.has(r, hash) ? 1 : 0, model.has(r, hash) ? 1 : 0);
        due("hashAt(" + r + ", " + k + ")", web.hashAt(r, k), model.hashAt(r, k));
        due("about(" + r + ", " + k + ", " + what + ")", web.about(r, k, what), model.about(r, k, what));
        due("linkAt(" + r + ", " + k + ", " + j + ")", web.linkAt(r, k, j), model.linkAt(r, k, j));
        due("heads(" + r + ")", web.heads(r), model.heads(r));
        due("headAt(" + r + ", " + j + ")", web.headAt(r, j), model.headAt(r, j));
        due("value(" + r + ", " + key + ")", web.value(r, key), model.value(r, key));
        due("all()", web.all(), model.all());
    }
}
