import java.util.function.Supplier;

/**
 * The whole of a committee: what the calls tell of it, and what only further calls bring to light,
 * as the steps of undo, the saved state, the next id, the tastes and the text buffer. Each part is
 * asked of a committee made anew, so that no asking spoils another and none comes near 512 calls.
 */
final class Whole {
    private static final int MOST_UNDONE = 9;
    private static final int MOST_CHARACTERS = 200;

    final String state;
    final String output;
    final String errorPosition;
    final String failedCommand;
    final String buffer;

    private Whole(Supplier<HedgeCommittee> maker) {
        state = stateOf(maker);
        output = outputOf(maker.get());
        errorPosition = "" + Check.outcome(maker.get()::errorPosition);
        failedCommand = "" + Check.outcome(maker.get()::failedCommand);
        buffer = bufferOf(maker);
    }

    static Whole of(Supplier<HedgeCommittee> maker) {
        return new Whole(maker);
    }

    /** Names the parts that differ from those of another, or answers an empty text. */
    String differenceFrom(Whole other) {
        StringBuilder parts = new StringBuilder();
        note(parts, "state", state, other.state);
        note(parts, "output", output, other.output);
        note(parts, "errorPosition", errorPosition, other.errorPosition);
        note(parts, "failedCommand", failedCommand, other.failedCommand);
        note(parts, "buffer", buffer, other.buffer);
        return parts.toString();
    }

    private static void note(StringBuilder parts, String name, String one, String other) {
        if (!one.equals(other)) {
            parts.append(name).append(": ").append(one).append(" and not ").append(other);
        }
    }

    private static String stateOf(Supplier<HedgeCommittee> maker) {
        StringBuilder text = new StringBuilder(answers(maker.get()));
        for (int steps = 1; steps <= MOST_UNDONE; steps++) {
            text.append(" undone ").append(undone(maker.get(), steps));
        }
        text.append(" restored ").append(restored(maker.get()));
        text.append(" next ").append(continued(maker.get()));
        return text.toString();
    }

    /** What the queries answer that ask for the state alone. */
    static String answers(HedgeCommittee c) {
        StringBuilder text = new StringBuilder();
        for (int hedge = 0; hedge < c.hedgeCount(); hedge++) {
            add(text, c.leaves(hedge), c.thorns(hedge), c.hedgeAtRank(hedge));
        }
        for (int at = 0; at < c.motionCount(); at++) {
            int id = c.motionAt(at);
            add(text, id, c.tone(id), c.weight(id), Check.outcome(() -> c.parent(id)), c.depth(id),
                    c.isTip(id), c.branchSize(id), c.lastTip(id), c.motionAtRank(at),
                    c.longestPath(id), c.longestPathBySweeps(id), opinions(c, id));
        }
        for (int season = 0; season < 4; season++) {
            add(text, c.minutesIn(season));
        }
        add(text, c.season(), c.adoptedWeight(), c.weightTotal(), c.weightByAccounts(),
                c.bestWorth(), c.bestWorthBySets(), c.goodSets(), c.isConsistent(),
                Check.outcome(c::meanLeaves), Check.outcome(c::carriedShare));
        return text.toString();
    }

    private static void add(StringBuilder text, Object... answers) {
        for (Object answer : answers) {
            text.append(answer).append(' ');
        }
        text.append("| ");
    }

    private static String opinions(HedgeCommittee c, int id) {
        StringBuilder text = new StringBuilder("favour ").append(c.leavesInFavour(id));
        for (int hedge = 0; hedge < c.hedgeCount(); hedge++) {
            text.append(c.wouldVeto(hedge, id) ? " veto" : " -");
        }
        return text.toString();
    }

    private static String undone(HedgeCommittee c, int steps) {
        StringBuilder text = new StringBuilder();
        for (int i = 0; i < steps; i++) {
            text.append(Check.outcome(c::undo)).append(' ');
        }
        return text.append(answers(c)).toString();
    }

    private static String restored(HedgeCommittee c) {
        Object outcome = Check.outcome(() -> {
            c.restore();
            return "restored";
        });
        String answers = answers(c);
        return outcome + " " + answers + Check.outcome(c::undo) + " " + continued(c);
    }

    /** Makes room as far as it can, and proposes motions of all tones: that shows the tastes. */
    private static String continued(HedgeCommittee c) {
        StringBuilder text = new StringBuilder();
        for (int at = 0; at < c.motionCount(); at++) {
            c.prune(c.motionAt(at), 0);
        }
        for (int i = 0; i < 10 && c.hedgeCount() > 0 && c.motionCount() > 2; i++) {
            add(text, c.vote(c.motionAt(0)));
        }
        for (int i = 0; i < 10; i++) {
            int tone = i;
            add(text, Check.outcome(() -> c.propose(tone, 1)));
        }
        return text.append(answers(c)).toString();
    }

    private static String outputOf(HedgeCommittee c) {
        StringBuilder text = new StringBuilder();
        Object sign = Check.outcome(() -> c.outputAt(0));
        for (int i = 1; sign instanceof Character && i <= MOST_CHARACTERS; i++) {
            int index = i;
            text.append(sign);
            sign = Check.outcome(() -> c.outputAt(index));
        }
        return text.append(sign).toString();
    }

    private static String bufferOf(Supplier<HedgeCommittee> maker) {
        HedgeCommittee typed = maker.get();
        StringBuilder text = new StringBuilder();
        text.append(Check.outcome(() -> typed.append('x'))).append(" run ");
        HedgeCommittee c = maker.get();
        text.append(Check.outcome(c::run)).append(' ').append(Check.outcome(c::errorPosition));
        text.append(' ').append(Check.outcome(c::failedCommand)).append(' ').append(answers(c));
        return text.toString();
    }
}
