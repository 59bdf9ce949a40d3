import java.io.IOException;
import java.io.UncheckedIOException;
import java.lang.reflect.Method;
import java.lang.reflect.Modifier;
import java.nio.file.Files;
import java.nio.file.Path;
import java.util.List;
import java.util.Set;
import java.util.TreeSet;
import java.util.regex.Matcher;
import java.util.regex.Pattern;

/** What README.md says holds. It is read from the folder that .ci/run runs in. */
public final class ReadmeTest implements Terms {
    private static final String README = read();
    private static int steps = 0;

    public static void main(String[] args) throws IOException {
        exampleAnswersAsItSays();
        everyCallIsTold();
        answersWhereThereIsNone();
        everyTestIsTold();
        Check.finish();
    }

    private static String read() {
        try {
            return Files.readString(Path.of("README.md"));
        } catch (IOException e) {
            throw new UncheckedIOException(e);
        }
    }

    /** One line of the example: it must stand in the README, with what it answers as its comment says. */
    private static void step(String line, long got, long want, String comment) {
        steps++;
        String told = Pattern.quote(line) + " +// " + Pattern.quote(comment);
        Check.due("README tells " + line, Pattern.compile(told).matcher(README).find(), true);
        Check.due(line, got, want);
    }

    private static void exampleAnswersAsItSays() {
        HashLinkedWeb web = new HashLinkedWeb();
        step("web.write(0, 0, 1, 5);", web.write(0, 0, 1, 5), LET_IN, "LET_IN");
        step("web.write(0, 1, 1, 7);", web.write(0, 1, 1, 7), LET_IN, "LET_IN");
        step("web.meet(0, 1);", web.meet(0, 1), 2, "2 rounds");
        step("web.value(1, 1);", web.value(1, 1), 12, "12\n");
        web.draft(2, 0, 3, 9);
        step("web.draft(2, 0, 3, 9);", web.draftHash(), Hashes.of(2, 0, 3, 9), "an operation of author 2");
        step("web.link(web.headAt(1, 0));", web.link(web.headAt(1, 0)) ? 1 : 0, 1, "true");
        step("web.offer(3);", web.offer(3), WAITS, "WAITS");
        step("web.meet(3, 1);", web.meet(3, 1), 2, "2 rounds");
        step("web.value(3, 3);", web.value(3, 3), 9, "9\n");
        long lines = README.lines().filter(line -> line.startsWith("web.")).count();
        Check.due("lines of the example", lines, steps);
    }

    private static Set<String> firstsOfTables(String pattern) {
        Set<String> firsts = new TreeSet<>();
        Matcher matcher = Pattern.compile("(?m)^\\| " + pattern).matcher(README);
        while (matcher.find()) {
            firsts.add(matcher.group(1));
        }
        return firsts;
    }

    private static void everyCallIsTold() {
        Set<String> due = new TreeSet<>();
        for (Method method : HashLinkedWeb.class.getDeclaredMethods()) {
            if (Modifier.isPublic(method.getModifiers())) {
                due.add(method.getName() + "/" + method.getParameterCount());
            }
        }
        Set<String> told = new TreeSet<>();
        for (String call : firstsOfTables("`(\\w+\\([^)]*\\))`")) {
            String arguments = call.replaceAll(".*\\(|\\)", "");
            int count = arguments.isEmpty() ? 0 : arguments.split(",").length;
            told.add(call.replaceAll("\\(.*", "") + "/" + count);
        }
        Check.due("calls told " + told + ", due " + due, told.equals(due), true);
    }

    /** The last column, for the calls that name a replica. */
    private static void answersWhereThereIsNone() {
        HashLinkedWeb web = new HashLinkedWeb();
        for (int r : NO_REPLICAS) {
            toldForNone("write", web.write(r, PUT, 0, 0));
            toldForNone("offer", web.offer(r));
            toldForNone("meet", web.meet(0, r));
            toldForNone("drop", web.drop(r));
            toldForNone("held", web.held(r));
            toldForNone("waiting", web.waiting(r));
            toldForNone("hashAt", web.hashAt(r, 0));
            toldForNone("about", web.about(r, 0, 0));
            toldForNone("linkAt", web.linkAt(r, 0, 0));
            toldForNone("heads", web.heads(r));
            toldForNone("headAt", web.headAt(r, 0));
            toldForNone("value", web.value(r, 0));
            Check.due("has at none", web.has(r, 0), false);
        }
    }

    private static void toldForNone(String call, long got) {
        Matcher row = Pattern.compile("(?m)^\\| `" + call + "\\(.*\\| (`NONE`|0)[^|]*\\|$").matcher(README);
        boolean isTold = row.find();
        Check.due("README tells what " + call + " answers where there is none", isTold, true);
        if (isTold) {
            Check.due(call + " where there is none", got, row.group(1).equals("0") ? 0 : NONE);
        }
    }

    private static void everyTestIsTold() throws IOException {
        Set<String> due = new TreeSet<>();
        try (var files = Files.list(Path.of("src/test/java"))) {
            List<String> names = files.map(file -> file.getFileName().toString()).toList();
            names.stream().filter(name -> name.endsWith("Test.java"))
                .forEach(name -> due.add(name.replace(".java", "")));
        }
        Set<String> told = firstsOfTables("(\\w+Test) ");
        Check.due("tests told " + told + ", due " + due, told.equals(due), true);
    }
}
