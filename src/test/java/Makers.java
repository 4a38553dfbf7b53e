/** Makes the committees that the tests of boundaries begin with. */
final class Makers {
    /** 60 characters, whose eight commands all succeed with the full committee. */
    static final String SIXTY = "season;season;season;vote 11;vote 10;vote 09;vote 08;vote 07";

    private Makers() {
    }

    static HedgeCommittee fresh() {
        return new HedgeCommittee();
    }

    static void type(HedgeCommittee c, String text) {
        for (int i = 0; i < text.length(); i++) {
            c.append(text.charAt(i));
        }
    }

    static int run(HedgeCommittee c, String text) {
        type(c, text);
        return c.run();
    }

    /** Runs a text that is refused, for what it leaves behind. */
    static void runInVain(HedgeCommittee c, String text) {
        type(c, text);
        Check.outcome(c::run);
    }

    static void pass(HedgeCommittee c, int seasons) {
        for (int i = 0; i < seasons; i++) {
            c.passSeason();
        }
    }

    static String line(HedgeCommittee c, int motion) {
        StringBuilder line = new StringBuilder();
        int length = c.writeBranch(motion);
        for (int i = 0; i < length; i++) {
            line.append(c.outputAt(i));
        }
        return line.toString();
    }

    /**
     * Three hedges and five motions in summer, with something of all that a committee holds: votes
     * of each outcome, minutes, eight calls to undo, a saved state, the error position 6, the failed
     * command 1, an output line and a program in the buffer.
     * <pre>
     * 0:4*13 - 1:5*6 - 3:7*8
     * 4:2*5  - 5:9*5
     * </pre>
     */
    static HedgeCommittee midway() {
        HedgeCommittee c = untyped();
        type(c, "vote 3;main 1 2");
        return c;
    }

    /** The same with an empty buffer. */
    static HedgeCommittee untyped() {
        HedgeCommittee c = fresh();
        c.addHedge(60, 2, 5);
        c.addHedge(30, 1, 0);
        c.addHedge(9, 0, 9);
        c.propose(4, 10);
        c.amend(0, 5, 6);
        c.amend(0, 6, 3);
        c.amend(1, 7, 8);
        c.save();
        runInVain(c, "season;vote 9");
        c.propose(2, 5);
        c.amend(4, 9, 5);
        c.vote(c.propose(5, 7));
        c.passSeason();
        c.vote(c.propose(9, 2));
        c.vote(c.propose(0, 4));
        c.vote(2);
        runInVain(c, "seasons");
        c.writeBranch(0);
        return c;
    }

    /**
     * Six hedges at the ends of their ranges, twelve motions, eight calls to undo, a buffer of 60
     * characters and the longest branch in the output line.
     * <pre>
     * 0:0*1 - 1:9*20
     *       - 2:4*3  - 3:5*8
     *                - 4:5*8
     * 5:9*20 - 6:0*1
     * 7:5*7
     * 8:5*7 - 9:1*2 - 10:2*2 - 11:3*2
     * </pre>
     */
    static HedgeCommittee full() {
        HedgeCommittee c = fullUntyped();
        type(c, SIXTY);
        return c;
    }

    /** The same with an empty buffer. */
    static HedgeCommittee fullUntyped() {
        HedgeCommittee c = fresh();
        c.addHedge(99, 9, 0);
        c.addHedge(1, 0, 9);
        c.addHedge(50, 1, 5);
        c.addHedge(50, 1, 5);
        c.addHedge(20, 0, 2);
        c.addHedge(20, 9, 7);
        c.propose(0, 1);
        c.amend(0, 9, 20);
        c.amend(0, 4, 3);
        c.amend(2, 5, 8);
        c.save();
        c.amend(2, 5, 8);
        c.propose(9, 20);
        c.amend(5, 0, 1);
        c.propose(5, 7);
        c.propose(5, 7);
        c.amend(8, 1, 2);
        c.amend(9, 2, 2);
        c.amend(10, 3, 2);
        c.writeBranch(0);
        return c;
    }

    /** Twelve motions, each the parent of the next one, and a hedge that carries them. */
    static HedgeCommittee chain() {
        return chainOf(12);
    }

    static HedgeCommittee chainOf(int motions) {
        HedgeCommittee c = fresh();
        c.addHedge(10, 0, 5);
        c.propose(5, 2);
        for (int i = 1; i < motions; i++) {
            c.amend(i - 1, 5, 2);
        }
        return c;
    }

    /** A main motion with eleven amendments, and a hedge that carries them. */
    static HedgeCommittee star() {
        HedgeCommittee c = fresh();
        c.addHedge(10, 0, 5);
        c.propose(5, 2);
        for (int i = 1; i < 12; i++) {
            c.amend(0, 5, 2);
        }
        return c;
    }

    /** Main motions alone, with the tone 5 and the weights from 1, and a hedge that carries them. */
    static HedgeCommittee mains(int motions) {
        HedgeCommittee c = fresh();
        c.addHedge(10, 0, 5);
        for (int i = 0; i < motions; i++) {
            c.propose(5, 1 + i);
        }
        return c;
    }

    /** Twelve motions without a hedge. */
    static HedgeCommittee withoutHedges() {
        HedgeCommittee c = fresh();
        c.propose(5, 2);
        for (int i = 1; i < 12; i++) {
            c.amend(i / 2, 5, 2);
        }
        return c;
    }
}
