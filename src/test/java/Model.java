import java.util.ArrayList;
import java.util.Comparator;
import java.util.HashMap;
import java.util.HashSet;
import java.util.List;
import java.util.Map;
import java.util.Set;
import java.util.TreeSet;

/** The document in its plainest form, with nothing kept that can be worked out anew. */
final class Model {
    /** An operation as the document tells it. */
    record Op(int author, int kind, int key, int value, List<Long> links) {
        long hash() {
            return Hashes.of(author, kind, key, value, links.stream().mapToLong(Long::longValue).toArray());
        }

        boolean inShape() {
            for (int i = 1; i < links.size(); i++) {
                if (links.get(i) <= links.get(i - 1)) {
                    return false;
                }
            }
            return within(author, 4) && within(kind, 4) && within(key, 8);
        }
    }

    private final Map<Long, Op> letIn = new HashMap<>();
    private final List<Set<Long>> held = new ArrayList<>();
    private final List<List<Op>> waits = new ArrayList<>();
    private Op draft = new Op(0, 0, 0, 0, List.of());

    Model() {
        for (int r = 0; r < 4; r++) {
            held.add(new HashSet<>());
            waits.add(new ArrayList<>());
        }
    }

    private static boolean within(int number, int bound) {
        return number >= 0 && number < bound;
    }

    private static boolean isReplica(int r) {
        return within(r, 4);
    }

    int write(int r, int kind, int key, int value) {
        if (!isReplica(r)) {
            return -1;
        }
        List<Long> links = headHashes(r);
        while (links.size() > 4) {
            links.remove(0);
        }
        return come(r, new Op(r, kind, key, value, links));
    }

    void draft(int author, int kind, int key, int value) {
        draft = new Op(author, kind, key, value, List.of());
    }

    boolean link(long hash) {
        if (draft.links().size() == 4) {
            return false;
        }
        List<Long> links = new ArrayList<>(draft.links());
        links.add(hash);
        draft = new Op(draft.author(), draft.kind(), draft.key(), draft.value(), links);
        return true;
    }

    long draftHash() {
        return draft.hash();
    }

    int offer(int r) {
        return isReplica(r) ? come(r, draft) : -1;
    }

    int meet(int a, int b) {
        if (!isReplica(a) || !isReplica(b) || a == b) {
            return -1;
        }
        Set<Long> toldToA = new HashSet<>(headHashes(b));
        Set<Long> toldToB = new HashSet<>(headHashes(a));
        Set<Long> gotByA = new HashSet<>();
        Set<Long> gotByB = new HashSet<>();
        int rounds = 0;
        while (true) {
            Set<Long> askedByA = asked(a, toldToA, gotByA);
            Set<Long> askedByB = asked(b, toldToB, gotByB);
            if (askedByA.isEmpty() && askedByB.isEmpty()) {
                break;
            }
            rounds++;
            give(b, askedByA, toldToA, gotByA);
            give(a, askedByB, toldToB, gotByB);
        }
        List<Long> forA = sorted(gotByA);
        List<Long> forB = sorted(gotByB);
        forA.forEach(hash -> come(a, letIn.get(hash)));
        forB.forEach(hash -> come(b, letIn.get(hash)));
        return rounds;
    }

    private Set<Long> asked(int r, Set<Long> told, Set<Long> got) {
        Set<Long> asked = new HashSet<>(told);
        asked.removeAll(held.get(r));
        asked.removeAll(got);
        return asked;
    }

    private void give(int giver, Set<Long> asked, Set<Long> told, Set<Long> got) {
        for (long hash : asked) {
            if (held.get(giver).contains(hash)) {
                got.add(hash);
                told.addAll(letIn.get(hash).links());
            }
        }
    }

    int drop(int r) {
        if (!isReplica(r)) {
            return -1;
        }
        int count = waits.get(r).size();
        waits.get(r).clear();
        return count;
    }

    int held(int r) {
        return isReplica(r) ? held.get(r).size() : -1;
    }

    int waiting(int r) {
        return isReplica(r) ? waits.get(r).size() : -1;
    }

    boolean has(int r, long hash) {
        return isReplica(r) && held.get(r).contains(hash);
    }

    long hashAt(int r, int k) {
        return isReplica(r) && within(k, held(r)) ? sorted(held.get(r)).get(k) : 0;
    }

    int about(int r, int k, int what) {
        if (!isReplica(r) || !within(k, held(r))) {
            return -1;
        }
        long hash = hashAt(r, k);
        Op op = letIn.get(hash);
        return switch (what) {
            case 0 -> op.author();
            case 1 -> op.kind();
            case 2 -> op.key();
            case 3 -> op.value();
            case 4 -> op.links().size();
            case 5 -> depth(hash);
            default -> -1;
        };
    }

    long linkAt(int r, int k, int j) {
        if (!isReplica(r) || !within(k, held(r))) {
            return 0;
        }
        List<Long> links = letIn.get(hashAt(r, k)).links();
        return within(j, links.size()) ? links.get(j) : 0;
    }

    int heads(int r) {
        return isReplica(r) ? headHashes(r).size() : -1;
    }

    long headAt(int r, int k) {
        return isReplica(r) && within(k, heads(r)) ? headHashes(r).get(k) : 0;
    }

    int value(int r, int key) {
        if (!isReplica(r) || !within(key, 8)) {
            return 0;
        }
        int value = 0;
        for (long hash : sorted(held.get(r))) {
            Op op = letIn.get(hash);
            if (op.key() == key && op.kind() == 0) {
                value = op.value();
            } else if (op.key() == key && op.kind() == 1) {
                value += op.value();
            }
        }
        return value;
    }

    int all() {
        return letIn.size();
    }

    private int come(int r, Op op) {
        int answer = comeAlone(r, op);
        while (true) {
            Op ready = null;
            for (Op one : waits.get(r)) {
                if (ready == null && held.get(r).containsAll(one.links())) {
                    ready = one;
                }
            }
            if (ready == null) {
                return answer;
            }
            waits.get(r).remove(ready);
            comeAlone(r, ready);
        }
    }

    private int comeAlone(int r, Op came) {
        long hash = came.hash();
        Op op = letIn.getOrDefault(hash, came);
        if (held.get(r).contains(hash)) {
            return 0;
        }
        if (!op.inShape()) {
            return 3;
        }
        if (!held.get(r).containsAll(op.links())) {
            if (waits.get(r).stream().noneMatch(one -> one.hash() == hash)) {
                waits.get(r).add(op);
                if (waits.get(r).size() == 6) {
                    waits.get(r).remove(0);
                }
            }
            return 2;
        }
        boolean tooMany = !letIn.containsKey(hash) && letIn.size() == 40;
        if (!right(op) || tooMany) {
            return 3;
        }
        letIn.put(hash, op);
        held.get(r).add(hash);
        return 1;
    }

    private boolean right(Op op) {
        for (long one : op.links()) {
            for (long other : op.links()) {
                if (past(letIn.get(other)).contains(one)) {
                    return false;
                }
            }
        }
        Set<Long> past = past(op);
        for (long lock : past) {
            Op it = letIn.get(lock);
            if (it.kind() == 2 && it.key() == op.key() && it.author() != op.author()
                    && past.stream().noneMatch(free -> frees(letIn.get(free), lock))) {
                return false;
            }
        }
        return true;
    }

    private boolean frees(Op free, long lock) {
        Op it = letIn.get(lock);
        return free.kind() == 3 && free.key() == it.key() && free.author() == it.author()
            && past(free).contains(lock);
    }

    private Set<Long> past(Op op) {
        Set<Long> past = new HashSet<>();
        List<Long> open = new ArrayList<>(op.links());
        while (!open.isEmpty()) {
            long hash = open.remove(open.size() - 1);
            if (past.add(hash)) {
                open.addAll(letIn.get(hash).links());
            }
        }
        return past;
    }

    private int depth(long hash) {
        Map<Long, Integer> known = new HashMap<>();
        return depth(hash, known);
    }

    private int depth(long hash, Map<Long, Integer> known) {
        if (!known.containsKey(hash)) {
            int depth = 1;
            for (long link : letIn.get(hash).links()) {
                depth = Math.max(depth, 1 + depth(link, known));
            }
            known.put(hash, depth);
        }
        return known.get(hash);
    }

    private List<Long> sorted(Set<Long> hashes) {
        Map<Long, Integer> depths = new HashMap<>();
        List<Long> row = new ArrayList<>(hashes);
        row.sort(Comparator.<Long>comparingInt(hash -> depth(hash, depths)).thenComparing(hash -> hash));
        return row;
    }

    private List<Long> headHashes(int r) {
        Set<Long> heads = new TreeSet<>(held.get(r));
        for (long hash : held.get(r)) {
            heads.removeAll(letIn.get(hash).links());
        }
        return new ArrayList<>(heads);
    }
}
