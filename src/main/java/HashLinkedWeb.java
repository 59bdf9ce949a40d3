import java.util.ArrayList;
import java.util.Arrays;

/**
 * Four replicas of one growing web of operations, each of which names the ones before it by their
 * hashes. README.md says how to use it.
 */
public final class HashLinkedWeb {
    public static final int HELD = 0;
    public static final int LET_IN = 1;
    public static final int WAITS = 2;
    public static final int WRONG = 3;
    public static final int NONE = -1;

    private static final int REPLICAS = 4;
    private static final int KEYS = 8;
    private static final int MOST_LINKS = 4;
    private static final int MOST_WAITING = 5;
    private static final int MOST_KNOWN = 40;

    private static final int PUT = 0;
    private static final int ADD = 1;
    private static final int LOCK = 2;
    private static final int FREE = 3;

    private static final int ABOUT_AUTHOR = 0;
    private static final int ABOUT_KIND = 1;
    private static final int ABOUT_KEY = 2;
    private static final int ABOUT_VALUE = 3;
    private static final int ABOUT_LINKS = 4;
    private static final int ABOUT_DEPTH = 5;

    private static final long HASH_START = 6148914691236517205L;
    private static final long HASH_FACTOR = 1099511628211L;
    private static final int HASH_SHIFT = 29;

    private final Known known;
    private final Replica[] replicas;
    private final Draft draft;
    private final Draft written;

    public HashLinkedWeb() {
        known = new Known();
        replicas = new Replica[REPLICAS];
        for (int i = 0; i < REPLICAS; i++) {
            replicas[i] = new Replica(known);
        }
        draft = new Draft();
        written = new Draft();
    }

    public int write(int replica, int kind, int key, int value) {
        Replica home = replicaAt(replica);
        if (home == null) {
            return NONE;
        }
        written.begin(replica, kind, key, value);
        int count = home.headRow.size;
        for (int k = Math.max(0, count - MOST_LINKS); k < count; k++) {
            written.append(headHash(home, k));
        }
        return home.welcome(written.finished());
    }

    public void draft(int author, int kind, int key, int value) {
        draft.begin(author, kind, key, value);
    }

    public boolean link(long hash) {
        return draft.append(hash);
    }

    public long draftHash() {
        return draft.finished().hash;
    }

    public int offer(int replica) {
        Replica home = replicaAt(replica);
        return home == null ? NONE : home.welcome(draft.finished());
    }

    public int meet(int a, int b) {
        Replica first = replicaAt(a);
        Replica second = replicaAt(b);
        if (first == null || second == null || a == b) {
            return NONE;
        }
        Asking ofFirst = new Asking(known, first, second);
        Asking ofSecond = new Asking(known, second, first);
        int rounds = 0;
        // A side that asks gets something new in every round, so it cannot ask more than 40 times.
        while (rounds < MOST_KNOWN && (ofFirst.isOpen() || ofSecond.isOpen())) {
            ofFirst.ask();
            ofSecond.ask();
            rounds++;
        }
        ofFirst.bringHome();
        ofSecond.bringHome();
        return rounds;
    }

    public int drop(int replica) {
        Replica home = replicaAt(replica);
        if (home == null) {
            return NONE;
        }
        int count = home.waitingRow.size();
        home.waitingRow.clear();
        return count;
    }

    public int held(int replica) {
        Replica home = replicaAt(replica);
        return home == null ? NONE : home.orderRow.size;
    }

    public int waiting(int replica) {
        Replica home = replicaAt(replica);
        return home == null ? NONE : home.waitingRow.size();
    }

    public boolean has(int replica, long hash) {
        Replica home = replicaAt(replica);
        return home != null && home.holds(known.find(hash));
    }

    public long hashAt(int replica, int k) {
        Member member = memberAt(replica, k);
        return member == null ? 0 : member.operation.hash;
    }

    public int about(int replica, int k, int what) {
        Member member = memberAt(replica, k);
        if (member == null) {
            return NONE;
        }
        switch (what) {
            case ABOUT_AUTHOR:
                return member.operation.author;
            case ABOUT_KIND:
                return member.operation.kind;
            case ABOUT_KEY:
                return member.operation.key;
            case ABOUT_VALUE:
                return member.operation.value;
            case ABOUT_LINKS:
                return member.operation.links.length;
            case ABOUT_DEPTH:
                return member.depth;
            default:
                return NONE;
        }
    }

    public long linkAt(int replica, int k, int j) {
        Member member = memberAt(replica, k);
        if (member == null || j < 0 || j >= member.operation.links.length) {
            return 0;
        }
        return member.operation.links[j];
    }

    public int heads(int replica) {
        Replica home = replicaAt(replica);
        return home == null ? NONE : home.headRow.size;
    }

    public long headAt(int replica, int k) {
        Replica home = replicaAt(replica);
        return home == null ? 0 : headHash(home, k);
    }

    public int value(int replica, int key) {
        Replica home = replicaAt(replica);
        return home == null || key < 0 || key >= KEYS ? 0 : home.stateOf(key);
    }

    public int all() {
        return known.members.size;
    }

    private Replica replicaAt(int replica) {
        return replica < 0 || replica >= REPLICAS ? null : replicas[replica];
    }

    private Member memberAt(int replica, int k) {
        Replica home = replicaAt(replica);
        return home == null ? null : home.orderRow.at(k);
    }

    private static long headHash(Replica home, int k) {
        Member head = home.headRow.at(k);
        return head == null ? 0 : head.operation.hash;
    }

    private static boolean contains(long set, int number) {
        return (set >>> number & 1L) != 0;
    }

    /** What an operation says. It is never changed, so that replicas can share it. */
    private static final class Operation {
        private final int author;
        private final int kind;
        private final int key;
        private final int value;
        private final long[] links;
        private final long hash;

        Operation(int author, int kind, int key, int value, long[] links) {
            this.author = author;
            this.kind = kind;
            this.key = key;
            this.value = value;
            this.links = links;
            long mixed = takeIn(HASH_START, author);
            mixed = takeIn(mixed, kind);
            mixed = takeIn(mixed, key);
            mixed = takeIn(mixed, value);
            mixed = takeIn(mixed, links.length);
            for (int j = 0; j < links.length; j++) {
                mixed = takeIn(mixed, links[j]);
            }
            this.hash = mixed;
        }

        private static long takeIn(long hash, long x) {
            long product = (hash ^ x) * HASH_FACTOR;
            return product ^ (product >>> HASH_SHIFT);
        }

        boolean isInShape() {
            return author >= 0 && author < REPLICAS
                && kind >= PUT && kind <= FREE
                && key >= 0 && key < KEYS
                && linksGrow();
        }

        private boolean linksGrow() {
            for (int j = 1; j < links.length; j++) {
                if (links[j - 1] >= links[j]) {
                    return false;
                }
            }
            return true;
        }

        boolean isOf(int kind, int key) {
            return this.kind == kind && this.key == key;
        }
    }

    /** An operation that is still being put together. */
    private static final class Draft {
        private int author;
        private int kind;
        private int key;
        private int value;
        private int linkCount;
        private final long[] links = new long[MOST_LINKS];

        void begin(int author, int kind, int key, int value) {
            this.author = author;
            this.kind = kind;
            this.key = key;
            this.value = value;
            linkCount = 0;
        }

        boolean append(long hash) {
            if (linkCount >= MOST_LINKS) {
                return false;
            }
            links[linkCount] = hash;
            linkCount++;
            return true;
        }

        Operation finished() {
            return new Operation(author, kind, key, value, Arrays.copyOf(links, linkCount));
        }
    }

    /**
     * An operation with its place in the web. Depth and past hang on its links alone, so they are the
     * same at every replica that holds it. Sets of members are longs with the bits of their numbers.
     */
    private static final class Member {
        private final Operation operation;
        private final int number;
        private final int depth;
        private final long linkSet;
        private final long past;

        Member(Operation operation, int number, int depth, long linkSet, long past) {
            this.operation = operation;
            this.number = number;
            this.depth = depth;
            this.linkSet = linkSet;
            this.past = past;
        }

        boolean standsBefore(Member other) {
            return depth != other.depth ? depth < other.depth : operation.hash < other.operation.hash;
        }
    }

    /** Members in an order that its owner keeps. */
    private static final class Row {
        private final Member[] places = new Member[MOST_KNOWN];
        private int size;

        Member at(int k) {
            return k < 0 || k >= size ? null : places[k];
        }

        void insert(int place, Member member) {
            if (place < 0 || place > size || size >= MOST_KNOWN) {
                return;
            }
            for (int k = size; k > place; k--) {
                places[k] = places[k - 1];
            }
            places[place] = member;
            size++;
        }

        void removeAll(long set) {
            int kept = 0;
            for (int k = 0; k < size; k++) {
                if (!contains(set, places[k].number)) {
                    places[kept] = places[k];
                    kept++;
                }
            }
            size = kept;
        }
    }

    /** The operations that any replica has let in, each at the place of its number. */
    private static final class Known {
        private final Row members = new Row();

        boolean isFull() {
            return members.size >= MOST_KNOWN;
        }

        void add(Member member) {
            members.insert(members.size, member);
        }

        Member find(long hash) {
            for (int i = 0; i < members.size; i++) {
                if (members.places[i].operation.hash == hash) {
                    return members.places[i];
                }
            }
            return null;
        }

        long linksOfAll(long set) {
            long links = 0;
            for (int i = 0; i < members.size; i++) {
                if (contains(set, i)) {
                    links |= members.places[i].linkSet;
                }
            }
            return links;
        }

        /** The operation as the next member. All of its links must be known. */
        Member candidate(Operation operation) {
            int depth = 1;
            long linkSet = 0;
            long past = 0;
            for (int j = 0; j < operation.links.length; j++) {
                Member link = find(operation.links[j]);
                if (link != null) {
                    depth = Math.max(depth, link.depth + 1);
                    linkSet |= 1L << link.number;
                    past |= link.past;
                }
            }
            return new Member(operation, members.size, depth, linkSet, linkSet | past);
        }

        boolean isRight(Member candidate) {
            for (int i = 0; i < members.size; i++) {
                Member earlier = members.places[i];
                boolean isPassedLink = contains(candidate.linkSet, i)
                    && (earlier.past & candidate.linkSet) != 0;
                if (isPassedLink || isLockAgainst(earlier, candidate) && !isFreed(earlier, candidate)) {
                    return false;
                }
            }
            return true;
        }

        private static boolean isLockAgainst(Member lock, Member candidate) {
            return contains(candidate.past, lock.number)
                && lock.operation.isOf(LOCK, candidate.operation.key)
                && lock.operation.author != candidate.operation.author;
        }

        private boolean isFreed(Member lock, Member candidate) {
            for (int i = 0; i < members.size; i++) {
                Member free = members.places[i];
                if (contains(candidate.past, i)
                        && free.operation.isOf(FREE, lock.operation.key)
                        && free.operation.author == lock.operation.author
                        && contains(free.past, lock.number)) {
                    return true;
                }
            }
            return false;
        }
    }

    /** What one replica holds, and what waits at it. */
    private static final class Replica {
        private final Known known;
        private final Row orderRow = new Row();
        private final Row headRow = new Row();
        private final ArrayList<Operation> waitingRow = new ArrayList<Operation>();
        private long heldSet;

        Replica(Known known) {
            this.known = known;
        }

        boolean holds(Member member) {
            return member != null && contains(heldSet, member.number);
        }

        private boolean holdsLinks(Operation operation) {
            for (int j = 0; j < operation.links.length; j++) {
                if (!holds(known.find(operation.links[j]))) {
                    return false;
                }
            }
            return true;
        }

        /** Lets an operation come, and then those that waited for it. */
        int welcome(Operation operation) {
            int answer = receive(operation);
            // Twice each, for one that waited may go back, once, as the known operation with its hash.
            for (int turn = 0; turn < 2 * MOST_WAITING; turn++) {
                int ready = firstReady();
                if (ready < 0) {
                    break;
                }
                receive(waitingRow.remove(ready));
            }
            return answer;
        }

        private int receive(Operation offered) {
            Member member = known.find(offered.hash);
            if (holds(member)) {
                return HELD;
            }
            // The hash alone says which one it is, whatever numbers and links are offered under it.
            Operation operation = member == null ? offered : member.operation;
            if (!operation.isInShape()) {
                return WRONG;
            }
            if (!holdsLinks(operation)) {
                letWait(operation);
                return WAITS;
            }
            // A known one was right with the very past that it has here.
            if (member == null) {
                member = known.candidate(operation);
                if (known.isFull() || !known.isRight(member)) {
                    return WRONG;
                }
                known.add(member);
            }
            hold(member);
            return LET_IN;
        }

        private void letWait(Operation operation) {
            for (int i = 0; i < waitingRow.size(); i++) {
                if (waitingRow.get(i).hash == operation.hash) {
                    return;
                }
            }
            waitingRow.add(operation);
            if (waitingRow.size() > MOST_WAITING) {
                waitingRow.remove(0);
            }
        }

        private int firstReady() {
            for (int i = 0; i < waitingRow.size(); i++) {
                if (holdsLinks(waitingRow.get(i))) {
                    return i;
                }
            }
            return NONE;
        }

        private void hold(Member member) {
            heldSet |= 1L << member.number;
            orderRow.insert(placeInOrder(member), member);
            headRow.removeAll(member.linkSet);
            // It is a head itself: what links to it cannot have been held before it.
            headRow.insert(placeInHeads(member), member);
        }

        private int placeInOrder(Member member) {
            int place = 0;
            while (place < orderRow.size && orderRow.places[place].standsBefore(member)) {
                place++;
            }
            return place;
        }

        private int placeInHeads(Member member) {
            int place = 0;
            while (place < headRow.size
                    && headRow.places[place].operation.hash < member.operation.hash) {
                place++;
            }
            return place;
        }

        long headSet() {
            long set = 0;
            for (int k = 0; k < headRow.size; k++) {
                set |= 1L << headRow.places[k].number;
            }
            return set;
        }

        int stateOf(int key) {
            int state = 0;
            for (int k = 0; k < orderRow.size; k++) {
                Operation operation = orderRow.places[k].operation;
                if (operation.isOf(PUT, key)) {
                    state = operation.value;
                } else if (operation.isOf(ADD, key)) {
                    state += operation.value;
                }
            }
            return state;
        }
    }

    /** One side of a meeting: what the asker was told of and lacks, and what it has got. */
    private static final class Asking {
        private final Known known;
        private final Replica asker;
        private final Replica teller;
        private long lacking;
        private long got;

        Asking(Known known, Replica asker, Replica teller) {
            this.known = known;
            this.asker = asker;
            this.teller = teller;
            lacking = teller.headSet() & ~asker.heldSet;
        }

        boolean isOpen() {
            return lacking != 0;
        }

        void ask() {
            got |= lacking;
            lacking = known.linksOfAll(lacking) & ~(asker.heldSet | got);
        }

        void bringHome() {
            // The teller's order is the one in which things come: by depth, then by hash.
            for (int k = 0; k < teller.orderRow.size; k++) {
                Member member = teller.orderRow.places[k];
                if (contains(got, member.number)) {
                    asker.welcome(member.operation);
                }
            }
        }
    }
}
