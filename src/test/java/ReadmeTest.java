import java.io.IOException;
import java.lang.reflect.Method;
import java.nio.file.DirectoryStream;
import java.nio.file.Files;
import java.nio.file.Path;
import java.util.ArrayList;
import java.util.List;
import java.util.Set;
import java.util.TreeSet;
import java.util.regex.Matcher;
import java.util.regex.Pattern;

/** What README.md says is so: its example, its limits, and which tests there are. */
public final class ReadmeTest {
    private static final Path README = Path.of("README.md");
    private static final Path TESTS = Path.of("src/test/java");

    private static final Checks checks = new Checks();

    public static void main(String[] args) throws IOException {
        example();
        theSameExample();
        namedCalls();
        namedTests();
        tooManyCandidates();
        checks.end();
    }

    private static void example() {
        // README.md, from here
        RoleMiner miner = new RoleMiner();
        miner.setGrants(0, 0b0011);        // user 0 has the permissions 0 and 1
        miner.setGrants(1, 0b1100);
        miner.setGrants(2, 0b1111);
        miner.setCosts(2, 3);              // a role costs 2, a grant that no role covers 3
        int cost = miner.mineBest();       // 4
        int roles = miner.roles();         // 2: miner.role(0) is 0b0011, miner.role(1) is 0b1100
        miner.setConflict(0, 2, true);
        boolean risky = miner.isRisky(0);  // true: user 2 has both roles
        miner.setPeriod(2);                // a grant lapses when it was not reviewed for two quarters
        miner.nextQuarter();
        miner.review(1, 3);
        int due = miner.due(1);            // 0b0100: permission 3 was reviewed, permission 2 was not
        int lapsed = miner.nextQuarter();  // 7: all grants but the reviewed one
        // README.md, to here
        checks.same("README: cost", cost, 4);
        checks.same("README: roles", roles, 2);
        checks.same("README: role(0)", miner.role(0), 0b0011);
        checks.same("README: role(1)", miner.role(1), 0b1100);
        checks.same("README: risky", risky, true);
        checks.same("README: due", due, 0b0100);
        checks.same("README: lapsed", lapsed, 7);
        checks.same("README: the reviewed one is left", miner.permissions(1), 0b1000);
        checks.same("README: it alone", miner.grants(), 1);
    }

    /** The example that is tried here is the one that README.md shows, line by line. */
    private static void theSameExample() throws IOException {
        List<String> shown = between(README, "```java", "```");
        List<String> tried = between(TESTS.resolve("ReadmeTest.java"), "// README.md, from here", "// README.md, to here");
        checks.same("README: it has an example", shown.size() > 0, true);
        checks.same("README: the example is the one that is tried", shown.equals(tried), true);
    }

    private static List<String> between(Path file, String first, String last) throws IOException {
        List<String> lines = new ArrayList<>();
        boolean isWithin = false;
        for (String line : Files.readAllLines(file)) {
            if (line.strip().equals(isWithin ? last : first)) {
                if (isWithin) {
                    return lines;
                }
                isWithin = true;
            } else if (isWithin) {
                lines.add(line.strip());
            }
        }
        return lines;
    }

    /** Each call of the face is named, and no other one. */
    private static void namedCalls() throws IOException {
        Set<String> calls = new TreeSet<>();
        for (Method method : RoleMiner.class.getMethods()) {
            if (method.getDeclaringClass() == RoleMiner.class) {
                calls.add(method.getName());
            }
        }
        String page = Files.readString(README);
        String use = page.substring(page.indexOf("- Users are"), page.indexOf("## How to run its tests"));
        Set<String> named = found(use, "`([a-z]\\w*)`");
        named.remove("throws");
        alike("README: the calls", named, calls);
    }

    /** Each test is named, and none that is not there. */
    private static void namedTests() throws IOException {
        Set<String> tests = new TreeSet<>();
        try (DirectoryStream<Path> files = Files.newDirectoryStream(TESTS, "*.java")) {
            for (Path file : files) {
                tests.add(file.getFileName().toString().replace(".java", ""));
            }
        }
        String page = Files.readString(README);
        Set<String> named = found(page.substring(page.indexOf("## How to run its tests")), "`([A-Z]\\w*)`");
        named.remove("Test");
        alike("README: the tests", named, tests);
    }

    private static Set<String> found(String text, String pattern) {
        Set<String> found = new TreeSet<>();
        Matcher matcher = Pattern.compile(pattern).matcher(text);
        while (matcher.find()) {
            found.add(matcher.group(1));
        }
        return found;
    }

    private static void alike(String what, Set<String> named, Set<String> due) {
        if (!named.equals(due)) {
            System.out.println(what + " that are named: " + named + ", those that there are: " + due);
        }
        checks.same(what, named.equals(due), true);
    }

    /** "refused while there are more than 14 candidates; a higher support leaves fewer" */
    private static void tooManyCandidates() {
        RoleMiner x = Made.fifteenCandidates();
        checks.fails("README: mineBest()", IllegalStateException.class, () -> x.mineBest());
        checks.fails("README: costOf(0)", IllegalStateException.class, () -> x.costOf(0));
        checks.fails("README: leastCost()", IllegalStateException.class, () -> x.leastCost());
        x.setSupport(2);
        checks.same("README: with a higher support", x.mineBest() == x.leastCost(), true);
    }
}
