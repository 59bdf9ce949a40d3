import java.lang.reflect.Constructor;
import java.lang.reflect.Field;
import java.lang.reflect.Method;
import java.lang.reflect.Modifier;
import java.util.Random;
import java.util.Set;
import java.util.TreeSet;

/** The public face is the document's and no more, and no call throws, whatever its arguments. */
public final class FaceTest {
    private static final int[] INTS = {Integer.MIN_VALUE, -2, -1, 0, 1, 2, 3, 4, 5, 7, 8, 39, 40, 41, 63, 64,
        Integer.MAX_VALUE};
    private static final long[] LONGS = {Long.MIN_VALUE, -1, 0, 1, Long.MAX_VALUE};

    public static void main(String[] args) throws ReflectiveOperationException {
        constantsAreTheDocuments();
        methodsAreTheDocuments();
        nothingElseIsSeen();
        noCallThrows();
        Check.finish();
    }

    private static void constantsAreTheDocuments() throws ReflectiveOperationException {
        String[] names = {"HELD", "LET_IN", "WAITS", "WRONG", "NONE"};
        int[] values = {0, 1, 2, 3, -1};
        for (int i = 0; i < names.length; i++) {
            Field field = HashLinkedWeb.class.getField(names[i]);
            int due = Modifier.PUBLIC | Modifier.STATIC | Modifier.FINAL;
            Check.due(names[i] + ": modifiers", field.getModifiers(), due);
            Check.due(names[i] + ": an int", field.getType() == int.class, true);
            Check.due(names[i], field.getInt(null), values[i]);
        }
    }

    private static void methodsAreTheDocuments() {
        Set<String> due = new TreeSet<>(Set.of(
            "int write(int,int,int,int)", "void draft(int,int,int,int)", "boolean link(long)", "long draftHash()",
            "int offer(int)", "int meet(int,int)", "int drop(int)", "int held(int)"));
        due.addAll(Set.of(
            "int waiting(int)", "boolean has(int,long)", "long hashAt(int,int)", "int about(int,int,int)",
            "long linkAt(int,int,int)", "int heads(int)", "long headAt(int,int)", "int value(int,int)", "int all()"));
        Set<String> got = new TreeSet<>();
        Set<String> publicNames = new TreeSet<>();
        for (Method method : HashLinkedWeb.class.getDeclaredMethods()) {
            if (!Modifier.isPrivate(method.getModifiers())) {
                Check.due(method + ": public alone", method.getModifiers(), Modifier.PUBLIC);
                got.add(method.toString().replace("public ", "").replace("HashLinkedWeb.", ""));
                publicNames.add(method.getName());
            }
        }
        Check.due("the methods are " + got, got.equals(due), true);
        for (Method method : HashLinkedWeb.class.getDeclaredMethods()) {
            boolean isPrivate = Modifier.isPrivate(method.getModifiers());
            Check.due(method + ": another name", isPrivate && publicNames.contains(method.getName()), false);
        }
    }

    private static void nothingElseIsSeen() {
        Check.due("the class", HashLinkedWeb.class.getModifiers(), Modifier.PUBLIC | Modifier.FINAL);
        Constructor<?>[] constructors = HashLinkedWeb.class.getDeclaredConstructors();
        Check.due("constructors", constructors.length, 1);
        Check.due("constructor: parameters", constructors[0].getParameterCount(), 0);
        Check.due("constructor: public", constructors[0].getModifiers(), Modifier.PUBLIC);
        int seen = 0;
        for (Field field : HashLinkedWeb.class.getDeclaredFields()) {
            seen += Modifier.isPrivate(field.getModifiers()) ? 0 : 1;
        }
        Check.due("fields to be seen", seen, 5);
        for (Class<?> inside : HashLinkedWeb.class.getDeclaredClasses()) {
            boolean hidden = (inside.getModifiers() & (Modifier.PUBLIC | Modifier.PROTECTED)) == 0;
            Check.due(inside + ": not public", hidden, true);
            Check.due(inside + ": static", Modifier.isStatic(inside.getModifiers()), true);
        }
    }

    /** Also far behind the 512th call, where only the answers are free. */
    private static void noCallThrows() {
        int thrown = 0;
        for (int run = 0; run < 200; run++) {
            HashLinkedWeb web = new HashLinkedWeb();
            Random random = new Random(run);
            for (int i = 0; i < 2000; i++) {
                try {
                    call(web, random);
                } catch (RuntimeException e) {
                    thrown++;
                    e.printStackTrace(System.out);
                }
            }
        }
        Check.due("calls that threw", thrown, 0);
    }

    private static void call(HashLinkedWeb web, Random random) {
        int a = INTS[random.nextInt(INTS.length)];
        int b = INTS[random.nextInt(INTS.length)];
        int c = INTS[random.nextInt(INTS.length)];
        int d = INTS[random.nextInt(INTS.length)];
        long hash = random.nextBoolean() ? LONGS[random.nextInt(LONGS.length)] : web.hashAt(a & 3, b & 15);
        switch (random.nextInt(18)) {
            case 0 -> web.write(a, b, c, d);
            case 1 -> web.write(a & 3, b & 3, c & 7, d);
            case 2 -> web.draft(a, b, c, d);
            case 3 -> web.draft(a & 3, b & 3, c & 7, d);
            case 4 -> web.link(hash);
            case 5 -> web.draftHash();
            case 6 -> web.offer(a);
            case 7 -> web.meet(a, b);
            case 8 -> web.drop(a);
            case 9 -> web.held(a);
            case 10 -> web.waiting(a);
            case 11 -> web.has(a, hash);
            case 12 -> web.hashAt(a, b);
            case 13 -> web.about(a, b, c);
            case 14 -> web.linkAt(a, b, c);
            case 15 -> web.headAt(a, b);
            case 16 -> web.value(a, b);
            default -> web.heads(a);
        }
    }
}
