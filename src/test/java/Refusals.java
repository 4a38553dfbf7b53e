import java.util.NoSuchElementException;
import java.util.function.Supplier;

/**
 * Calls that are refused on one kind of committee: each must throw the very exception that is due,
 * and leave the whole committee as it was before.
 */
final class Refusals {
    static final Class<IllegalArgumentException> ARGUMENT = IllegalArgumentException.class;
    static final Class<IllegalStateException> STATE = IllegalStateException.class;
    static final Class<IndexOutOfBoundsException> INDEX = IndexOutOfBoundsException.class;
    static final Class<NoSuchElementException> ELEMENT = NoSuchElementException.class;
    static final Class<UnsupportedOperationException> UNSUPPORTED =
            UnsupportedOperationException.class;
    static final Class<ArithmeticException> ARITHMETIC = ArithmeticException.class;

    interface Use {
        Object on(HedgeCommittee c);
    }

    interface UseOfNumber {
        Object on(HedgeCommittee c, int number);
    }

    private final String where;
    private final Supplier<HedgeCommittee> maker;
    private final Whole before;

    Refusals(String where, Supplier<HedgeCommittee> maker) {
        this.where = where;
        this.maker = maker;
        this.before = Whole.of(maker);
    }

    private Supplier<HedgeCommittee> afterwards(Use use) {
        return () -> {
            HedgeCommittee c = maker.get();
            Check.outcome(() -> use.on(c));
            return c;
        };
    }

    /** The call throws, and nothing changes. */
    void due(String what, Class<? extends RuntimeException> exception, Use use) {
        HedgeCommittee c = maker.get();
        Check.thrown(where + ": " + what, exception, () -> use.on(c));
        changesNothing(what, use);
    }

    /** Whether the call throws or not, the whole committee is as it was before. */
    void changesNothing(String what, Use use) {
        Whole after = Whole.of(afterwards(use));
        Check.equal(where + ": what " + what + " changes", after.differenceFrom(before), "");
    }

    /** The call may change the buffer, the output line and what run stored, and nothing else. */
    void leavesState(String what, Use use) {
        Whole after = Whole.of(afterwards(use));
        Check.equal(where + ": state after " + what, after.state, before.state);
    }

    /** Each of the numbers is refused. */
    void due(String what, Class<? extends RuntimeException> exception, int[] numbers,
            UseOfNumber use) {
        for (int number : numbers) {
            due(what + " of " + number, exception, c -> use.on(c, number));
        }
    }

    /** The ends of a range are taken, and what is beyond them is refused. */
    void range(String what, Class<? extends RuntimeException> exception, int least, int most,
            UseOfNumber use) {
        for (int number : new int[] {least, most}) {
            HedgeCommittee c = maker.get();
            Object outcome = Check.outcome(() -> use.on(c, number));
            boolean isRefused = ("" + outcome).endsWith("Exception");
            Check.equal(where + ": " + what + " refuses " + number, isRefused, false);
        }
        due(what, exception, beyond(least, most), use);
    }

    static int[] beyond(int least, int most) {
        return new int[] {least - 1, most + 1, Integer.MIN_VALUE, Integer.MAX_VALUE};
    }

    /** A text whose run is refused: it changes the buffer and what it stores, and nothing else. */
    void dueOfRun(String text, Class<? extends RuntimeException> exception, int stored) {
        String what = where + ": run of '" + text + "'";
        Use use = c -> Makers.run(c, text);
        HedgeCommittee c = maker.get();
        Check.thrown(what, exception, () -> use.on(c));
        Whole after = Whole.of(afterwards(use));
        Check.equal(what + " leaves the state", after.state, before.state);
        Check.equal(what + " leaves the output", after.output, before.output);
        boolean isNoProgram = exception == ARGUMENT;
        Check.equal(what + ", error position", after.errorPosition,
                isNoProgram ? "" + stored : before.errorPosition);
        Check.equal(what + ", failed command", after.failedCommand,
                isNoProgram ? before.failedCommand : "" + stored);
        Check.equal(what + " empties the buffer", c.append('x'), 1);
    }
}
