import java.io.IOException;
import java.nio.file.Files;
import java.nio.file.Paths;
import java.util.ArrayList;
import java.util.List;

/** The example of README.md: it stands here word by word, and answers what its comments say. */
public final class ReadmeTest {
    private static final String README = "README.md";
    private static final String THIS = "src/test/java/ReadmeTest.java";
    private static final String FROM = "        // ---- the example begins";
    private static final String TO = "        // ---- the example ends";
    private static final int INDENT = 8;

    private ReadmeTest() {
    }

    public static void main(String[] args) throws IOException {
        List<String> shown = between(README, "```java", "```");
        List<String> done = new ArrayList<>();
        for (String line : between(THIS, FROM, TO)) {
            done.add(line.isEmpty() ? line : line.substring(INDENT));
        }
        Check.equal("the example of README.md", shown, done);
        example();
        Check.finish();
    }

    private static List<String> between(String file, String from, String to) throws IOException {
        List<String> lines = Files.readAllLines(Paths.get(file));
        int begin = lines.indexOf(from) + 1;
        List<String> rest = lines.subList(begin, lines.size());
        return rest.subList(0, rest.indexOf(to));
    }

    private static void example() {
        // ---- the example begins
        HedgeCommittee committee = new HedgeCommittee();
        committee.addHedge(10, 1, 5);                   // leaves, thorns, taste: hedge 0
        committee.addHedge(4, 2, 0);                    // hedge 1
        int motion = committee.propose(4, 10);          // tone, weight: the main motion 0
        int amendment = committee.amend(motion, 5, 6);  // its parent, tone, weight: motion 1
        committee.regrow(motion);                       // motion 2 grows from the last tip, motion 1
        int length = committee.writeBranch(motion);     // "0:4*10(1:5*6(2:6*3))" to the output line
        int best = committee.bestWorth();               // 13: motions 0 and 2
        int removed = committee.prune(amendment, 0);    // 1: motion 2
        char outcome = committee.vote(amendment);       // 'c': carried, its weight goes to its parent
        int weight = committee.weight(motion);          // 16
        int left = committee.undo();                    // 6 calls can still be undone; motion 1 is back

        for (char c : "vote 1;vote 0;season".toCharArray()) {
            committee.append(c);
        }
        int commands = committee.run();                 // 3, which are undone as one
        int adopted = committee.adoptedWeight();        // 16: motion 0 is in the minutes of spring

        for (char c : "season;vote 0".toCharArray()) {
            committee.append(c);
        }
        try {
            committee.run();                            // refused: there is no motion 0 any more
        } catch (UnsupportedOperationException e) {
            int failed = committee.failedCommand();     // 1, and the season is as before
        }
        // ---- the example ends
        StringBuilder line = new StringBuilder();
        for (int i = 0; i < length; i++) {
            line.append(committee.outputAt(i));
        }
        Check.equal("line", line.toString(), "0:4*10(1:5*6(2:6*3))");
        int[] answers = {motion, amendment, best, removed, outcome, weight, left, commands, adopted};
        int[] due = {0, 1, 13, 1, 'c', 16, 6, 3, 16};
        for (int i = 0; i < due.length; i++) {
            Check.equal("answer " + i, answers[i], due[i]);
        }
        Check.equal("minutes of spring", committee.minutesIn(0), 1);
        Check.equal("failed command", committee.failedCommand(), 1);
        Check.equal("season", committee.season(), 1);
    }
}
