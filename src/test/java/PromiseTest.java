import java.util.NoSuchElementException;

/** One method for each promise of the document: ordinary inputs, edges and wrong inputs. */
public final class PromiseTest {
    private static final Class<IllegalArgumentException> ARGUMENT = IllegalArgumentException.class;
    private static final Class<IllegalStateException> STATE = IllegalStateException.class;
    private static final Class<IndexOutOfBoundsException> INDEX = IndexOutOfBoundsException.class;
    private static final Class<NoSuchElementException> ELEMENT = NoSuchElementException.class;
    private static final Class<UnsupportedOperationException> UNSUPPORTED =
            UnsupportedOperationException.class;
    private static final Class<ArithmeticException> ARITHMETIC = ArithmeticException.class;
    private static final int[] NO_HEDGES = {-1, Integer.MIN_VALUE, 2, 6, Integer.MAX_VALUE};
    private static final int[] NO_IDS = {-1, Integer.MIN_VALUE, 7, 12, Integer.MAX_VALUE};

    private PromiseTest() {
    }

    public static void main(String[] args) {
        promise01NewObject();
        promise02AddHedge();
        promise03Propose();
        promise04Amend();
        promise05Prune();
        promise06Regrow();
        promise07Vote();
        promise08PassSeason();
        promise02EachOfSixHedgesTakesPart();
        promise09HedgeCount();
        promise10Leaves();
        promise11Thorns();
        promise12HedgeAtRank();
        promise13LeavesInFavour();
        promise14WouldVeto();
        promise15MotionCount();
        promise16MotionAt();
        promise17Tone();
        promise18Weight();
        promise19Parent();
        promise20Depth();
        promise21IsTip();
        promise22BranchSize();
        promise23LastTip();
        promise24MotionAtRank();
        promise25CommonMotion();
        promise26CommonMotionByRows();
        promise27PathSize();
        promise28LongestPath();
        promise29LongestPathBySweeps();
        promise30BestWorth();
        promise31BestWorthBySets();
        promise32GoodSets();
        promise33Season();
        promise34MinutesIn();
        promise35AdoptedWeight();
        promise36WeightTotal();
        promise37WeightByAccounts();
        promise38MeanLeaves();
        promise39CarriedShare();
        promise40IsConsistent();
        promise41Append();
        promise42Run();
        promise42RunOfEachCommand();
        promise42RunThatFails();
        promise43ErrorPosition();
        promise44FailedCommand();
        promise45WriteBranch();
        promise45WriteBranchOfManyMotions();
        promise46OutputAt();
        promise47Undo();
        promise47UndoOfEachChange();
        promise47UndoAfterFailures();
        promise48Save();
        promise49Restore();
        promise49RestoreOfEachPart();
        Check.finish();
    }

    // ---- makers

    private static HedgeCommittee empty() {
        return new HedgeCommittee();
    }

    /** Hedges 0: 10 leaves, 1 thorn, taste 5; and 1: 4 leaves, 2 thorns, taste 0. */
    private static HedgeCommittee withHedges() {
        HedgeCommittee c = empty();
        c.addHedge(10, 1, 5);
        c.addHedge(4, 2, 0);
        return c;
    }

    /**
     * <pre>
     * 0:4*10 - 1:5*6 - 3:7*8 - 4:8*2
     *        - 2:6*3
     * 5:2*5  - 6:9*5
     * </pre>
     */
    private static HedgeCommittee withTrees() {
        HedgeCommittee c = withHedges();
        c.propose(4, 10);
        c.amend(0, 5, 6);
        c.amend(0, 6, 3);
        c.amend(1, 7, 8);
        c.amend(3, 8, 2);
        c.propose(2, 5);
        c.amend(5, 9, 5);
        return c;
    }

    private static HedgeCommittee withMotions(int count) {
        HedgeCommittee c = empty();
        for (int i = 0; i < count; i++) {
            c.propose(i % 10, 1 + i);
        }
        return c;
    }

    /** Lets a tip grow by half and half again: regrow, and vote for what has grown. */
    private static void grow(HedgeCommittee c, int motion, int rounds) {
        for (int i = 0; i < rounds; i++) {
            Check.equal("carried", c.vote(c.regrow(motion)), 'c');
        }
    }

    /** An int holds each weight of the chain 0 - 47 - 48, but not all sums of them. */
    private static HedgeCommittee withGreatChain() {
        HedgeCommittee c = empty();
        c.addHedge(99, 0, 5);
        c.propose(4, 20);
        c.amend(0, 4, 3);
        c.vote(1);
        grow(c, 0, 45);
        c.regrow(0);
        c.regrow(0);
        return c;
    }

    /** Two motions, which weigh 1651629034 each: main motions, or amendments of a small one. */
    private static HedgeCommittee withGreatPair(boolean isAmending) {
        HedgeCommittee c = empty();
        c.addHedge(99, 0, 5);
        if (isAmending) {
            c.propose(4, 7);
        }
        for (int i = 0; i < 2; i++) {
            int motion = isAmending ? c.amend(0, 4, 20) : c.propose(4, 20);
            grow(c, motion, 45);
        }
        return c;
    }

    private static void type(HedgeCommittee c, String text) {
        for (int i = 0; i < text.length(); i++) {
            c.append(text.charAt(i));
        }
    }

    private static String line(HedgeCommittee c, int motion) {
        StringBuilder line = new StringBuilder();
        int length = c.writeBranch(motion);
        for (int i = 0; i < length; i++) {
            line.append(c.outputAt(i));
        }
        return line.toString();
    }

    /** All that the face shows of the state, but for the buffer and what run and output keep. */
    private static String picture(HedgeCommittee c) {
        StringBuilder picture = new StringBuilder();
        for (int hedge = 0; hedge < c.hedgeCount(); hedge++) {
            picture.append(c.leaves(hedge)).append('/').append(c.thorns(hedge)).append(' ');
        }
        for (int at = 0; at < c.motionCount(); at++) {
            int id = c.motionAt(at);
            Object above = Check.outcome(() -> c.parent(id));
            picture.append(id).append(':').append(c.tone(id)).append('*').append(c.weight(id));
            picture.append('<').append(above).append(' ');
        }
        for (int season = 0; season < 4; season++) {
            picture.append(c.minutesIn(season)).append(' ');
        }
        picture.append(c.season()).append(' ').append(c.adoptedWeight()).append(' ');
        picture.append(c.weightByAccounts()).append(' ').append(Check.outcome(c::carriedShare));
        return picture.toString();
    }

    // ---- changes

    private static void promise01NewObject() {
        HedgeCommittee c = empty();
        Check.equal("1 hedgeCount", c.hedgeCount(), 0);
        Check.equal("1 motionCount", c.motionCount(), 0);
        Check.equal("1 season", c.season(), 0);
        Check.equal("1 adoptedWeight", c.adoptedWeight(), 0);
        Check.equal("1 weightTotal", c.weightTotal(), 0);
        Check.equal("1 weightByAccounts", c.weightByAccounts(), 0);
        Check.equal("1 first id", c.propose(0, 1), 0);
        HedgeCommittee other = empty();
        Check.equal("1 another object has nothing of the first", other.motionCount(), 0);
    }

    private static void promise02AddHedge() {
        HedgeCommittee c = empty();
        int[][] wrong = {{0, 0, 0}, {100, 0, 0}, {-1, 0, 0}, {1, -1, 0}, {1, 10, 0}, {1, 0, -1},
            {1, 0, 10}, {Integer.MIN_VALUE, 0, 0}, {Integer.MAX_VALUE, 0, 0}};
        for (int[] w : wrong) {
            Check.thrown("2 addHedge out of range", ARGUMENT, () -> c.addHedge(w[0], w[1], w[2]));
        }
        Check.equal("2 nothing changed", c.hedgeCount(), 0);
        Check.equal("2 least", c.addHedge(1, 0, 0), 0);
        Check.equal("2 most", c.addHedge(99, 9, 9), 1);
        Check.equal("2 leaves", c.leaves(1), 99);
        Check.equal("2 thorns", c.thorns(1), 9);
        for (int i = 2; i < 6; i++) {
            Check.equal("2 index", c.addHedge(10 + i, i, i), i);
        }
        Check.thrown("2 seventh", STATE, () -> c.addHedge(1, 0, 0));
        Check.thrown("2 seventh out of range", ARGUMENT, () -> c.addHedge(0, 0, 0));
        Check.equal("2 still six", c.hedgeCount(), 6);
        Check.equal("2 leaves of the last", c.leaves(5), 15);
        Check.equal("2 thorns of the last", c.thorns(5), 5);
    }

    private static void promise03Propose() {
        HedgeCommittee c = empty();
        int[][] wrong = {{-1, 1}, {10, 1}, {0, 0}, {0, 21}, {0, -1}, {Integer.MAX_VALUE, 1},
            {0, Integer.MIN_VALUE}};
        for (int[] w : wrong) {
            Check.thrown("3 propose out of range", ARGUMENT, () -> c.propose(w[0], w[1]));
        }
        Check.equal("3 least", c.propose(0, 1), 0);
        Check.equal("3 most", c.propose(9, 20), 1);
        Check.equal("3 tone", c.tone(1), 9);
        Check.equal("3 weight", c.weight(1), 20);
        Check.thrown("3 main motion", ELEMENT, () -> c.parent(1));
        Check.equal("3 depth", c.depth(1), 0);
        for (int i = 2; i < 12; i++) {
            Check.equal("3 id", c.propose(1, 1), i);
        }
        Check.thrown("3 thirteenth", STATE, () -> c.propose(0, 1));
        Check.thrown("3 thirteenth out of range", ARGUMENT, () -> c.propose(10, 1));
        Check.thrown("3 thirteenth out of range", ARGUMENT, () -> c.propose(0, 0));
        c.addHedge(1, 0, 1);
        c.vote(5);
        Check.equal("3 an id is not used again", c.propose(0, 1), 12);
    }

    private static void promise04Amend() {
        HedgeCommittee c = empty();
        Check.thrown("4 no motion", ELEMENT, () -> c.amend(0, 0, 1));
        c.propose(3, 3);
        int[][] wrong = {{-1, 1}, {10, 1}, {0, 0}, {0, 21}, {0, -1}};
        for (int[] w : wrong) {
            Check.thrown("4 amend out of range", ARGUMENT, () -> c.amend(0, w[0], w[1]));
            Check.thrown("4 no motion comes first", ELEMENT, () -> c.amend(1, w[0], w[1]));
        }
        Check.equal("4 id", c.amend(0, 9, 20), 1);
        Check.equal("4 least", c.amend(1, 0, 1), 2);
        Check.equal("4 parent", c.parent(2), 1);
        Check.equal("4 parent", c.parent(1), 0);
        Check.equal("4 depth", c.depth(2), 2);
        Check.equal("4 tone", c.tone(1), 9);
        Check.equal("4 weight", c.weight(1), 20);
        for (int i = 3; i < 12; i++) {
            Check.equal("4 id", c.amend(i - 1, 1, 1), i);
        }
        Check.equal("4 deepest", c.depth(11), 11);
        Check.thrown("4 full", STATE, () -> c.amend(0, 0, 1));
        Check.thrown("4 full, out of range", ARGUMENT, () -> c.amend(0, 10, 1));
        Check.thrown("4 full, out of range", ARGUMENT, () -> c.amend(0, 0, 21));
        Check.thrown("4 full, no motion", ELEMENT, () -> c.amend(12, 0, 1));
        Check.thrown("4 full, no motion, out of range", ELEMENT, () -> c.amend(-1, 10, 0));
    }

    private static void promise05Prune() {
        HedgeCommittee c = withTrees();
        Check.thrown("5 no motion", ELEMENT, () -> c.prune(7, 0));
        Check.thrown("5 no motion comes first", ELEMENT, () -> c.prune(-1, 10));
        Check.thrown("5 levels", ARGUMENT, () -> c.prune(0, -1));
        Check.thrown("5 levels", ARGUMENT, () -> c.prune(0, 10));
        Check.equal("5 nine levels", c.prune(0, 9), 0);
        Check.equal("5 three levels", c.prune(0, 3), 0);
        Check.equal("5 two levels", c.prune(0, 2), 1);
        Check.equal("5 gone", Check.outcome(() -> c.weight(4)), ELEMENT.getName());
        Check.equal("5 levels count from the motion", c.prune(1, 1), 0);
        Check.equal("5 no level", c.prune(0, 0), 3);
        Check.equal("5 the other tree stays", c.branchSize(5), 2);
        Check.equal("5 its amendment stays", c.parent(6), 5);
        Check.equal("5 the motion itself stays", c.motionAt(0), 0);
        Check.equal("5 count", c.motionCount(), 3);
        Check.equal("5 weight of the motion", c.weight(0), 10);

        HedgeCommittee mixed = empty();
        mixed.propose(0, 1);
        mixed.propose(0, 2);
        mixed.amend(0, 0, 3);
        mixed.amend(1, 0, 4);
        mixed.amend(2, 0, 5);
        mixed.amend(3, 0, 6);
        Check.equal("5 between others", mixed.prune(0, 0), 2);
        Check.equal("5 parents hold", mixed.parent(5), 3);
        Check.equal("5 parents hold", mixed.parent(3), 1);
        Check.equal("5 line", line(mixed, 1), "1:0*2(3:0*4(5:0*6))");

        HedgeCommittee chain = empty();
        chain.propose(0, 1);
        for (int i = 1; i < 12; i++) {
            chain.amend(i - 1, 0, 1);
        }
        Check.equal("5 below nine levels", chain.prune(0, 9), 2);
        Check.equal("5 below one of depth 4", chain.prune(4, 2), 3);
        Check.equal("5 left", chain.motionCount(), 7);
    }

    private static void promise06Regrow() {
        HedgeCommittee c = withTrees();
        Check.thrown("6 no motion", ELEMENT, () -> c.regrow(7));
        Check.equal("6 id", c.regrow(0), 7);
        Check.equal("6 grows from the last tip", c.parent(7), 4);
        Check.equal("6 tone", c.tone(7), 9);
        Check.equal("6 weight", c.weight(7), 1);
        Check.equal("6 id", c.regrow(5), 8);
        Check.equal("6 grows from the last tip", c.parent(8), 6);
        Check.equal("6 tone after 9", c.tone(8), 0);
        Check.equal("6 half is rounded down", c.weight(8), 2);
        Check.equal("6 a tip itself", c.regrow(2), 9);
        Check.equal("6 parent", c.parent(9), 2);
        Check.equal("6 weight", c.weight(9), 1);
        Check.equal("6 of a weight of 1", c.weight(c.regrow(9)), 1);
        Check.equal("6 the last tip is the greatest id", c.parent(c.regrow(0)), 10);
        Check.equal("6 twelve", c.motionCount(), 12);
        Check.thrown("6 full", STATE, () -> c.regrow(0));
        Check.thrown("6 full, no motion", ELEMENT, () -> c.regrow(12));
        Check.equal("6 weight counts", c.weightByAccounts(), c.weightTotal());

        HedgeCommittee shallow = empty();
        shallow.propose(0, 20);
        shallow.amend(0, 1, 20);
        shallow.amend(1, 2, 20);
        shallow.amend(0, 3, 20);
        Check.equal("6 not the deepest tip", shallow.parent(shallow.regrow(0)), 3);
        Check.equal("6 half of 20", shallow.weight(4), 10);
        Check.equal("6 tone", shallow.tone(4), 4);
        Check.equal("6 of a branch", shallow.parent(shallow.regrow(1)), 2);
    }

    private static void promise07Vote() {
        HedgeCommittee c = empty();
        Check.thrown("7 no motion", ELEMENT, () -> c.vote(0));
        c.propose(5, 4);
        Check.thrown("7 no hedges", STATE, () -> c.vote(0));
        c.addHedge(10, 0, 2);
        c.addHedge(10, 0, 9);
        Check.equal("7 half of the leaves is not enough", c.vote(0), 'r');
        Check.equal("7 removed", c.motionCount(), 0);
        Check.thrown("7 gone", ELEMENT, () -> c.vote(0));
        c.addHedge(1, 0, 8);
        c.propose(5, 4);
        Check.equal("7 more than half, difference 3 above and below", c.vote(1), 'c');
        Check.equal("7 minutes", c.minutesIn(0), 1);
        Check.equal("7 adopted", c.adoptedWeight(), 4);
        Check.equal("7 removed", c.motionCount(), 0);

        HedgeCommittee v = withTrees();
        Check.thrown("7 not a tip", STATE, () -> v.vote(0));
        Check.equal("7 difference 8 and a thorn", v.vote(4), 'v');
        Check.equal("7 the thorn is spent", v.thorns(1), 1);
        Check.equal("7 the other hedge keeps its own", v.thorns(0), 1);
        Check.equal("7 difference 7 and a thorn", v.vote(3), 'v');
        Check.equal("7 the thorn is spent", v.thorns(1), 0);
        Check.equal("7 the parent gets nothing of a veto", v.weight(1), 6);
        Check.equal("7 no thorn and too few leaves", v.vote(6), 'r');
        Check.equal("7 the parent gets nothing of a rejection", v.weight(5), 5);
        Check.equal("7 carried", v.vote(1), 'c');
        Check.equal("7 the parent gets the weight", v.weight(0), 16);
        Check.equal("7 nothing in the minutes", v.minutesIn(0), 0);
        Check.equal("7 nothing adopted", v.adoptedWeight(), 0);
        Check.equal("7 carried", v.vote(2), 'c');
        Check.equal("7 a main motion that became a tip", v.vote(0), 'c');
        Check.equal("7 adopted with all weights", v.adoptedWeight(), 19);

        HedgeCommittee two = empty();
        two.addHedge(99, 1, 9);
        two.addHedge(1, 9, 9);
        two.addHedge(1, 9, 8);
        two.addHedge(1, 0, 7);
        two.propose(2, 1);
        Check.equal("7 each hedge that vetoes", two.vote(0), 'v');
        Check.equal("7 loses a thorn", two.thorns(0), 0);
        Check.equal("7 loses a thorn", two.thorns(1), 8);
        Check.equal("7 difference 6 keeps its thorns", two.thorns(2), 9);
        Check.equal("7 without a thorn", two.thorns(3), 0);
    }

    private static void promise08PassSeason() {
        HedgeCommittee c = empty();
        c.addHedge(97, 8, 0);
        c.addHedge(3, 9, 0);
        c.addHedge(50, 0, 0);
        Check.equal("8 summer", c.passSeason(), 1);
        Check.equal("8 2 more", c.leaves(0), 99);
        Check.equal("8 2 more", c.leaves(1), 5);
        Check.equal("8 no thorn in summer", c.thorns(2), 0);
        Check.equal("8 autumn", c.passSeason(), 2);
        Check.equal("8 2 fewer", c.leaves(0), 97);
        Check.equal("8 2 fewer", c.leaves(1), 3);
        Check.equal("8 winter", c.passSeason(), 3);
        Check.equal("8 4 fewer", c.leaves(0), 93);
        Check.equal("8 not below 1", c.leaves(1), 1);
        Check.equal("8 no thorn in winter", c.thorns(2), 0);
        Check.equal("8 spring", c.passSeason(), 0);
        Check.equal("8 4 more", c.leaves(0), 97);
        Check.equal("8 4 more", c.leaves(1), 5);
        Check.equal("8 a thorn in spring", c.thorns(0), 9);
        Check.equal("8 not above 9", c.thorns(1), 9);
        Check.equal("8 a thorn in spring", c.thorns(2), 1);
        Check.equal("8 leaves of the third", c.leaves(2), 50);
        c.addHedge(98, 0, 0);
        c.addHedge(2, 0, 0);
        c.passSeason();
        Check.equal("8 not above 99", c.leaves(3), 99);
        c.passSeason();
        c.addHedge(5, 0, 0);
        Check.equal("8 winter", c.passSeason(), 3);
        Check.equal("8 not below 1", c.leaves(4), 1);
        Check.equal("8 down to 1", c.leaves(5), 1);
    }

    // ---- queries about hedges

    private static void promise02EachOfSixHedgesTakesPart() {
        HedgeCommittee full = empty();
        for (int i = 0; i < 6; i++) {
            full.addHedge(1, 1, 1);
        }
        full.propose(1, 1);
        Check.equal("2 rank of the sixth", full.hedgeAtRank(5), 5);
        Check.equal("2 six in favour", full.leavesInFavour(0), 6);
        Check.equal("2 mean of six", full.meanLeaves(), 1.0);
        Check.equal("2 vote of six", full.vote(0), 'c');
        Check.equal("2 season of six", full.passSeason(), 1);
        Check.equal("2 leaves of the sixth", full.leaves(5), 3);
    }

    private static void promise09HedgeCount() {
        HedgeCommittee c = empty();
        for (int i = 0; i < 6; i++) {
            Check.equal("9 before", c.hedgeCount(), i);
            c.addHedge(1, 1, 1);
        }
        Check.equal("9 six", c.hedgeCount(), 6);
        c.undo();
        Check.equal("9 after undo", c.hedgeCount(), 5);
        Check.equal("9 two", withHedges().hedgeCount(), 2);
    }

    private static void promise10Leaves() {
        HedgeCommittee c = withHedges();
        Check.equal("10 leaves", c.leaves(0), 10);
        Check.equal("10 leaves", c.leaves(1), 4);
        for (int hedge : NO_HEDGES) {
            Check.thrown("10 no hedge", INDEX, () -> c.leaves(hedge));
        }
        c.passSeason();
        Check.equal("10 leaves in summer", c.leaves(1), 6);
        Check.thrown("10 none at all", INDEX, () -> empty().leaves(0));
        HedgeCommittee full = withSixHedges();
        Check.equal("10 the sixth", full.leaves(5), 15);
        Check.thrown("10 behind the sixth", INDEX, () -> full.leaves(6));
    }

    private static void promise11Thorns() {
        HedgeCommittee c = withHedges();
        Check.equal("11 thorns", c.thorns(0), 1);
        Check.equal("11 thorns", c.thorns(1), 2);
        for (int hedge : NO_HEDGES) {
            Check.thrown("11 no hedge", INDEX, () -> c.thorns(hedge));
        }
        c.vote(c.propose(9, 1));
        Check.equal("11 thorns after a veto", c.thorns(1), 1);
        Check.thrown("11 none at all", INDEX, () -> empty().thorns(0));
        HedgeCommittee full = withSixHedges();
        Check.equal("11 the sixth", full.thorns(5), 5);
        Check.thrown("11 behind the sixth", INDEX, () -> full.thorns(6));
    }

    /** Hedge i has 10 + i leaves, i thorns and the taste i. */
    private static HedgeCommittee withSixHedges() {
        HedgeCommittee c = empty();
        for (int i = 0; i < 6; i++) {
            c.addHedge(10 + i, i, i);
        }
        return c;
    }

    private static void promise12HedgeAtRank() {
        HedgeCommittee c = empty();
        Check.thrown("12 none", ELEMENT, () -> c.hedgeAtRank(0));
        c.addHedge(5, 2, 0);
        c.addHedge(7, 0, 0);
        c.addHedge(5, 3, 0);
        c.addHedge(5, 2, 9);
        c.addHedge(1, 9, 0);
        int[] due = {1, 2, 0, 3, 4};
        for (int rank = 0; rank < due.length; rank++) {
            Check.equal("12 rank " + rank, c.hedgeAtRank(rank), due[rank]);
        }
        for (int rank : new int[] {-1, 5, 6, Integer.MIN_VALUE, Integer.MAX_VALUE}) {
            Check.thrown("12 rank " + rank, ELEMENT, () -> c.hedgeAtRank(rank));
        }
    }

    private static void promise13LeavesInFavour() {
        HedgeCommittee c = empty();
        c.propose(4, 1);
        Check.equal("13 no hedges", c.leavesInFavour(0), 0);
        c.addHedge(1, 9, 0);
        c.addHedge(2, 0, 1);
        c.addHedge(4, 9, 4);
        c.addHedge(8, 0, 7);
        c.addHedge(16, 0, 8);
        Check.equal("13 differences up to 3", c.leavesInFavour(0), 14);
        c.amend(0, 0, 1);
        Check.equal("13 not a tip", c.leavesInFavour(0), 14);
        Check.equal("13 tone 0", c.leavesInFavour(1), 3);
        for (int id : NO_IDS) {
            Check.thrown("13 no motion", ELEMENT, () -> c.leavesInFavour(id));
        }
    }

    private static void promise14WouldVeto() {
        HedgeCommittee c = empty();
        c.propose(8, 1);
        Check.thrown("14 no hedge", INDEX, () -> c.wouldVeto(0, 0));
        c.addHedge(1, 1, 1);
        c.addHedge(1, 9, 2);
        c.addHedge(1, 0, 0);
        c.addHedge(1, 2, 9);
        Check.equal("14 difference 7", c.wouldVeto(0, 0), true);
        Check.equal("14 difference 6", c.wouldVeto(1, 0), false);
        Check.equal("14 no thorn", c.wouldVeto(2, 0), false);
        Check.equal("14 difference 1", c.wouldVeto(3, 0), false);
        c.amend(0, 2, 1);
        Check.equal("14 not a tip", c.wouldVeto(0, 0), true);
        Check.equal("14 tone below the taste", c.wouldVeto(3, 1), true);
        Check.equal("14 no thorn is lost by asking", c.thorns(0), 1);
        for (int id : NO_IDS) {
            Check.thrown("14 no motion", ELEMENT, () -> c.wouldVeto(0, id));
            Check.thrown("14 no hedge comes first", INDEX, () -> c.wouldVeto(4, id));
            Check.thrown("14 no hedge comes first", INDEX, () -> c.wouldVeto(-1, id));
        }
    }

    // ---- queries about motions

    private static void promise15MotionCount() {
        Check.equal("15 none", empty().motionCount(), 0);
        HedgeCommittee c = withTrees();
        Check.equal("15 count", c.motionCount(), 7);
        c.prune(1, 0);
        Check.equal("15 after pruning", c.motionCount(), 5);
        c.vote(2);
        Check.equal("15 after a vote", c.motionCount(), 4);
        c.regrow(0);
        Check.equal("15 after regrowing", c.motionCount(), 5);
        Check.equal("15 twelve", withMotions(12).motionCount(), 12);
    }

    private static void promise16MotionAt() {
        HedgeCommittee c = withTrees();
        c.prune(1, 0);
        int[] due = {0, 1, 2, 5, 6};
        for (int position = 0; position < due.length; position++) {
            Check.equal("16 position " + position, c.motionAt(position), due[position]);
        }
        for (int position : new int[] {-1, 5, 12, Integer.MIN_VALUE, Integer.MAX_VALUE}) {
            Check.thrown("16 position", INDEX, () -> c.motionAt(position));
        }
        HedgeCommittee full = withMotions(12);
        Check.equal("16 last", full.motionAt(11), 11);
        Check.thrown("16 behind the last", INDEX, () -> full.motionAt(12));
        Check.thrown("16 none", INDEX, () -> empty().motionAt(0));
    }

    private interface Query {
        Object of(HedgeCommittee c, int motion);
    }

    /** What a query answers of the motions 0 to 6 of the trees, and that it refuses other ids. */
    private static void ofTrees(String what, Query query, Object... due) {
        HedgeCommittee c = withTrees();
        for (int id = 0; id < due.length; id++) {
            int motion = id;
            Check.equal(what + " of " + id, Check.outcome(() -> query.of(c, motion)), due[id]);
        }
        for (int id : NO_IDS) {
            Check.thrown(what + " of no motion", ELEMENT, () -> query.of(c, id));
        }
        c.vote(2);
        Check.thrown(what + " of a motion that is gone", ELEMENT, () -> query.of(c, 2));
        Check.equal(what + " behind the gap", query.of(c, 6), due[6]);
        Check.thrown(what + " without motions", ELEMENT, () -> query.of(empty(), 0));
    }

    private static void promise17Tone() {
        ofTrees("17 tone", HedgeCommittee::tone, 4, 5, 6, 7, 8, 2, 9);
        HedgeCommittee c = withTrees();
        Check.equal("17 of a regrown motion", c.tone(c.regrow(0)), 9);
    }

    private static void promise18Weight() {
        ofTrees("18 weight", HedgeCommittee::weight, 10, 6, 3, 8, 2, 5, 5);
        HedgeCommittee c = withTrees();
        Check.equal("18 a carried amendment", c.vote(2), 'c');
        Check.equal("18 of its parent", c.weight(0), 13);
    }

    private static void promise19Parent() {
        String none = ELEMENT.getName();
        ofTrees("19 parent", HedgeCommittee::parent, none, 0, 0, 1, 3, none, 5);
    }

    private static void promise20Depth() {
        ofTrees("20 depth", HedgeCommittee::depth, 0, 1, 1, 2, 3, 0, 1);
    }

    private static void promise21IsTip() {
        ofTrees("21 isTip", HedgeCommittee::isTip, false, false, true, false, true, false, true);
        HedgeCommittee c = withTrees();
        c.vote(4);
        Check.equal("21 a tip again", c.isTip(3), true);
        c.amend(2, 0, 1);
        Check.equal("21 a tip no more", c.isTip(2), false);
    }

    private static void promise22BranchSize() {
        ofTrees("22 branchSize", HedgeCommittee::branchSize, 5, 3, 1, 2, 1, 2, 1);
        HedgeCommittee c = withTrees();
        c.vote(4);
        Check.equal("22 after a vote", c.branchSize(0), 4);
    }

    private static void promise23LastTip() {
        ofTrees("23 lastTip", HedgeCommittee::lastTip, 4, 4, 2, 4, 4, 6, 6);
        HedgeCommittee c = withTrees();
        c.vote(4);
        Check.equal("23 the last tip is the greatest, not the deepest", c.lastTip(0), 3);
        c.amend(2, 0, 1);
        Check.equal("23 lastTip", c.lastTip(0), 7);
        Check.equal("23 lastTip of a branch beside it", c.lastTip(1), 3);
        c.vote(7);
        c.vote(3);
        Check.equal("23 a tip before the greatest id", c.lastTip(0), 2);
        c.vote(2);
        Check.equal("23 the only tip", c.lastTip(0), 1);
    }

    private static void promise24MotionAtRank() {
        HedgeCommittee c = empty();
        Check.thrown("24 none", INDEX, () -> c.motionAtRank(0));
        c.propose(0, 3);
        c.amend(0, 0, 5);
        c.amend(1, 0, 5);
        c.propose(0, 5);
        c.amend(3, 0, 5);
        c.amend(3, 0, 9);
        int[] due = {5, 3, 1, 4, 2, 0};
        for (int rank = 0; rank < due.length; rank++) {
            Check.equal("24 rank " + rank, c.motionAtRank(rank), due[rank]);
        }
        for (int rank : new int[] {-1, 6, 12, Integer.MIN_VALUE, Integer.MAX_VALUE}) {
            Check.thrown("24 rank " + rank, INDEX, () -> c.motionAtRank(rank));
        }
        HedgeCommittee full = withMotions(12);
        for (int rank = 0; rank < 12; rank++) {
            Check.equal("24 of twelve", full.motionAtRank(rank), 11 - rank);
        }
        HedgeCommittee even = empty();
        for (int i = 0; i < 12; i++) {
            even.propose(9 - i % 10, 7);
        }
        for (int rank = 0; rank < 12; rank++) {
            Check.equal("24 of twelve alike", even.motionAtRank(rank), rank);
        }
        HedgeCommittee gap = withMotions(3);
        gap.addHedge(1, 0, 0);
        gap.vote(0);
        Check.equal("24 an id and not a position", gap.motionAtRank(0), 2);
        HedgeCommittee great = withGreatPair(true);
        int[] greatDue = {1, 47, 0};
        for (int rank = 0; rank < greatDue.length; rank++) {
            Check.equal("24 great weights", great.motionAtRank(rank), greatDue[rank]);
        }
    }

    // ---- queries about trees

    private interface QueryOfTwo {
        Object of(HedgeCommittee c, int one, int other);
    }

    private static void ofTwo(String what, QueryOfTwo query, HedgeCommittee c, int one, int other,
            Object due) {
        Check.equal(what + " of " + one + " and " + other,
                Check.outcome(() -> query.of(c, one, other)), due);
        Check.equal(what + " of " + other + " and " + one,
                Check.outcome(() -> query.of(c, other, one)), due);
    }

    private static void commonOfTrees(String what, QueryOfTwo query) {
        HedgeCommittee c = withTrees();
        int[][] due = {{4, 2, 0}, {3, 4, 3}, {4, 0, 0}, {1, 2, 0}, {6, 6, 6}, {5, 5, 5}, {5, 6, 5}};
        for (int[] d : due) {
            ofTwo(what, query, c, d[0], d[1], d[2]);
        }
        for (int[] pair : new int[][] {{4, 6}, {2, 6}, {0, 5}, {4, 5}, {0, 6}}) {
            ofTwo(what, query, c, pair[0], pair[1], UNSUPPORTED.getName());
        }
        for (int id : NO_IDS) {
            ofTwo(what, query, c, 0, id, ELEMENT.getName());
            ofTwo(what, query, c, id, id, ELEMENT.getName());
        }
        c.amend(1, 0, 1);
        c.amend(7, 0, 1);
        ofTwo(what, query, c, 4, 8, 1);
        ofTwo(what, query, c, 4, 7, 1);
        c.vote(2);
        ofTwo(what, query, c, 4, 8, 1);
        ofTwo(what, query, c, 5, 6, 5);
    }

    private static void promise25CommonMotion() {
        commonOfTrees("25 commonMotion", HedgeCommittee::commonMotion);
    }

    private static void promise26CommonMotionByRows() {
        commonOfTrees("26 commonMotionByRows", HedgeCommittee::commonMotionByRows);
    }

    private static void promise27PathSize() {
        HedgeCommittee c = withTrees();
        int[][] due = {{4, 2, 5}, {2, 4, 5}, {3, 3, 1}, {0, 0, 1}, {0, 4, 4}, {4, 3, 2}, {5, 6, 2},
            {1, 2, 3}};
        for (int[] d : due) {
            Check.equal("27 path of " + d[0] + " and " + d[1], c.pathSize(d[0], d[1]), d[2]);
        }
        Check.thrown("27 no path", UNSUPPORTED, () -> c.pathSize(0, 5));
        Check.thrown("27 no path", UNSUPPORTED, () -> c.pathSize(6, 4));
        for (int id : NO_IDS) {
            Check.thrown("27 no motion", ELEMENT, () -> c.pathSize(id, 0));
            Check.thrown("27 no motion", ELEMENT, () -> c.pathSize(0, id));
        }
    }

    private static void longestOfTrees(String what, Query query) {
        ofTrees(what, query, 5, 3, 1, 2, 1, 2, 1);
        HedgeCommittee c = withTrees();
        c.amend(1, 0, 1);
        c.amend(7, 0, 1);
        c.amend(8, 0, 1);
        Check.equal(what + " beside the top", query.of(c, 0), 6);
        Check.equal(what + " through the top", query.of(c, 1), 6);
        Check.equal(what + " of a chain", query.of(c, 7), 3);

        HedgeCommittee chain = empty();
        chain.propose(0, 1);
        for (int i = 1; i < 12; i++) {
            chain.amend(i - 1, 0, 1);
        }
        for (int i = 0; i < 12; i++) {
            Check.equal(what + " of twelve", query.of(chain, i), 12 - i);
        }
    }

    private static void promise28LongestPath() {
        longestOfTrees("28 longestPath", HedgeCommittee::longestPath);
    }

    private static void promise29LongestPathBySweeps() {
        longestOfTrees("29 longestPathBySweeps", HedgeCommittee::longestPathBySweeps);
    }

    private interface Total {
        int of(HedgeCommittee c);
    }

    private static void bestOfTrees(String what, Total best) {
        Check.equal(what + " of none", best.of(empty()), 0);
        HedgeCommittee c = withTrees();
        Check.equal(what + " of two trees", best.of(c), 23);
        c.vote(6);
        c.regrow(5);
        Check.equal(what + " of a lighter one", best.of(c), 23);
        HedgeCommittee chain = empty();
        chain.propose(0, 3);
        Check.equal(what + " of one", best.of(chain), 3);
        int[] weights = {4, 4, 5, 20};
        int[] due = {4, 7, 9, 27};
        for (int i = 0; i < due.length; i++) {
            chain.amend(i, 0, weights[i]);
            Check.equal(what + " of a chain", best.of(chain), due[i]);
        }
        HedgeCommittee fork = empty();
        fork.propose(0, 20);
        fork.amend(0, 0, 1);
        fork.amend(0, 0, 1);
        fork.amend(1, 0, 9);
        fork.amend(2, 0, 8);
        Check.equal(what + " of a fork", best.of(fork), 37);
        HedgeCommittee star = empty();
        star.propose(0, 20);
        for (int i = 1; i < 12; i++) {
            star.amend(0, 0, 2);
        }
        Check.equal(what + " of a star", best.of(star), 22);
        Check.equal(what + " of twelve", best.of(withMotions(12)), 78);
    }

    private static void bestOfGreatWeights(String what, Total best) {
        HedgeCommittee chain = withGreatChain();
        Check.equal("18 great weight", chain.weight(0), 1886857894);
        Check.equal(what + " of great weights", best.of(chain), (int) (1886857894L + 471714473L));
        int ofPair = (int) (2 * 1651629034L);
        Check.equal(what + " of a great pair", best.of(withGreatPair(false)), ofPair);
        Check.equal(what + " of great amendments", best.of(withGreatPair(true)), ofPair);
        chain.vote(48);
        Check.equal(what + " of a great one", best.of(chain), 1886857894);
    }

    private static void promise30BestWorth() {
        bestOfTrees("30 bestWorth", HedgeCommittee::bestWorth);
        bestOfGreatWeights("30 bestWorth", HedgeCommittee::bestWorth);
    }

    private static void promise31BestWorthBySets() {
        bestOfTrees("31 bestWorthBySets", HedgeCommittee::bestWorthBySets);
        bestOfGreatWeights("31 bestWorthBySets", HedgeCommittee::bestWorthBySets);
        HedgeCommittee chain = withGreatChain();
        chain.vote(48);
        chain.vote(47);
        Check.equal("31 a weight beyond an int", chain.bestWorthBySets(), chain.bestWorth());
        HedgeCommittee full = withGreatPair(false);
        for (int i = 0; i < 5; i++) {
            full.regrow(0);
            full.regrow(46);
        }
        Check.equal("31 great trees", full.bestWorthBySets(), full.bestWorth());
    }

    private static void promise32GoodSets() {
        Check.equal("32 the empty set", empty().goodSets(), 1);
        Check.equal("32 one motion", withMotions(1).goodSets(), 2);
        Check.equal("32 all sets", withMotions(12).goodSets(), 4096);
        Check.equal("32 two trees", withTrees().goodSets(), 13 * 3);
        HedgeCommittee chain = empty();
        chain.propose(0, 1);
        int before = 1;
        int due = 2;
        for (int i = 1; i < 12; i++) {
            Check.equal("32 chain of " + i, chain.goodSets(), due);
            chain.amend(i - 1, 0, 1);
            due += before;
            before = due - before;
        }
        Check.equal("32 chain of 12", chain.goodSets(), 377);
    }

    // ---- totals

    private static void promise33Season() {
        HedgeCommittee c = empty();
        for (int i = 0; i < 10; i++) {
            Check.equal("33 season", c.season(), i % 4);
            Check.equal("33 new season", c.passSeason(), (i + 1) % 4);
        }
    }

    private static void promise34MinutesIn() {
        HedgeCommittee c = withHedges();
        for (int i = 0; i < 7; i++) {
            Check.equal("34 carried", c.vote(c.propose(5, 3 + i)), 'c');
            if (i != 2) {
                c.passSeason();
            }
        }
        c.propose(5, 1);
        c.amend(7, 5, 1);
        Check.equal("34 a carried amendment", c.vote(8), 'c');
        Check.equal("34 a rejected motion", c.vote(c.propose(0, 1)), 'r');
        int[] due = {2, 2, 2, 1};
        for (int season = 0; season < 4; season++) {
            Check.equal("34 minutes of " + season, c.minutesIn(season), due[season]);
            Check.equal("34 none at first", empty().minutesIn(season), 0);
        }
        for (int season : new int[] {-1, 4, Integer.MIN_VALUE, Integer.MAX_VALUE}) {
            Check.thrown("34 no season", ARGUMENT, () -> c.minutesIn(season));
        }
    }

    private static void promise35AdoptedWeight() {
        HedgeCommittee c = withHedges();
        int sum = 0;
        for (int i = 0; i < 7; i++) {
            Check.equal("35 carried", c.vote(c.propose(5, 3 + i)), 'c');
            sum += 3 + i;
            Check.equal("35 adopted", c.adoptedWeight(), sum);
            c.passSeason();
        }
        c.propose(5, 1);
        c.amend(7, 5, 1);
        Check.equal("35 a carried amendment", c.vote(8), 'c');
        Check.equal("35 a rejected motion", c.vote(c.propose(0, 1)), 'r');
        Check.equal("35 not adopted", c.adoptedWeight(), sum);
        c.vote(7);
        Check.equal("35 with the amendment", c.adoptedWeight(), sum + 2);
        Check.equal("35 none at first", empty().adoptedWeight(), 0);
    }

    private static void totalOfTrees(String what, Total total) {
        Check.equal(what + " of none", total.of(empty()), 0);
        HedgeCommittee c = withTrees();
        Check.equal(what + " of all", total.of(c), 39);
        Check.equal("7 vetoed", c.vote(4), 'v');
        Check.equal(what + " without the vetoed one", total.of(c), 37);
        c.regrow(0);
        Check.equal(what + " with the regrown one", total.of(c), 41);
        c.prune(3, 0);
        Check.equal(what + " without the pruned one", total.of(c), 37);
        Check.equal("7 vetoed", c.vote(6), 'v');
        Check.equal(what + " without the vetoed one", total.of(c), 32);
        Check.equal("7 carried", c.vote(2), 'c');
        Check.equal(what + " with a carried amendment", total.of(c), 32);
        Check.equal("7 carried", c.vote(5), 'c');
        Check.equal(what + " without the adopted one", total.of(c), 27);
        c.prune(0, 0);
        Check.equal(what + " without the pruned ones", total.of(c), 13);
        c.undo();
        Check.equal(what + " after undo", total.of(c), 27);
        Check.equal("7 carried, the thorns are spent", c.vote(3), 'c');
        Check.equal(what + " with a carried amendment", total.of(c), 27);
        Check.equal(what + " without rejected ones", total.of(withRejection()), 2);
        Check.equal(what + " of a great chain", total.of(withGreatChain()),
                (int) (1886857894L + 943428947L + 471714473L));
        Check.equal(what + " of a great pair", total.of(withGreatPair(true)),
                (int) (7 + 2 * 1651629034L));
    }

    private static void promise36WeightTotal() {
        totalOfTrees("36 weightTotal", HedgeCommittee::weightTotal);
    }

    private static void promise37WeightByAccounts() {
        totalOfTrees("37 weightByAccounts", HedgeCommittee::weightByAccounts);
    }

    private static HedgeCommittee withRejection() {
        HedgeCommittee c = withHedges();
        c.propose(0, 9);
        c.propose(0, 2);
        c.propose(0, 5);
        Check.equal("36 rejected", c.vote(0), 'r');
        Check.equal("36 rejected", c.vote(2), 'r');
        return c;
    }

    private static void promise38MeanLeaves() {
        Check.thrown("38 no hedges", ARITHMETIC, () -> empty().meanLeaves());
        HedgeCommittee c = withHedges();
        Check.equal("38 mean", c.meanLeaves(), 7.0);
        c.addHedge(8, 0, 0);
        Check.equal("38 not rounded", c.meanLeaves(), 22.0 / 3.0);
    }

    private static void promise39CarriedShare() {
        HedgeCommittee c = withHedges();
        Check.thrown("39 no vote", ARITHMETIC, c::carriedShare);
        c.propose(0, 1);
        c.vote(0);
        Check.equal("39 rejected", c.carriedShare(), 0.0f);
        c.propose(5, 1);
        c.amend(1, 5, 1);
        c.vote(2);
        Check.equal("39 carried amendment", c.carriedShare(), 0.5f);
        c.vote(1);
        Check.equal("39 carried main motion", c.carriedShare(), 2.0f / 3.0f);
        c.propose(9, 1);
        Check.equal("39 vetoed", c.vote(3), 'v');
        Check.equal("39 vetoed", c.carriedShare(), 0.5f);
        c.undo();
        Check.equal("39 undone", c.carriedShare(), 2.0f / 3.0f);
        c.prune(3, 0);
        Check.equal("39 pruning is no vote", c.carriedShare(), 2.0f / 3.0f);
    }

    private static void promise40IsConsistent() {
        HedgeCommittee c = empty();
        Check.equal("40 empty", c.isConsistent(), true);
        Check.equal("40 trees", withTrees().isConsistent(), true);
        Check.equal("40 full", withMotions(12).isConsistent(), true);
        Check.equal("40 rejection", withRejection().isConsistent(), true);
        Check.equal("40 great pair", withGreatPair(false).isConsistent(), true);
        Check.equal("40 great amendments", withGreatPair(true).isConsistent(), true);
        HedgeCommittee great = withGreatChain();
        Check.equal("40 great chain", great.isConsistent(), true);
        for (int i = 0; i < 80; i++) {
            great.vote(great.lastTip(0));
            great.regrow(0);
            Check.equal("40 greater than an int", great.isConsistent(), true);
        }
    }

    // ---- programs

    private static void promise41Append() {
        HedgeCommittee c = empty();
        for (int i = 1; i <= 60; i++) {
            Check.equal("41 length", c.append((char) (i * 1000)), i);
        }
        Check.thrown("41 full", STATE, () -> c.append('x'));
        Check.thrown("41 full again", STATE, () -> c.append('\uffff'));
        Check.thrown("41 no program", ARGUMENT, c::run);
        Check.equal("41 empty again", c.append('x'), 1);
    }

    private static void promise42Run() {
        HedgeCommittee c = empty();
        type(c, "hedge 99 9 1;main 5 20;amend 0 9 1;amend 01 0 07;season");
        Check.equal("42 commands", c.run(), 5);
        Check.equal("42 hedges", c.hedgeCount(), 1);
        Check.equal("42 leaves", c.leaves(0), 99);
        Check.equal("42 thorns", c.thorns(0), 9);
        Check.equal("42 taste", c.leavesInFavour(2), 99);
        Check.equal("42 line", line(c, 0), "0:5*20(1:9*1(2:0*7))");
        Check.equal("42 season", c.season(), 1);
        Check.thrown("42 the buffer is empty", ARGUMENT, c::run);
        Check.equal("42 error position of nothing", c.errorPosition(), 0);
        Check.equal("42 undone as one", c.undo(), 0);
        Check.equal("42 undone as one", c.hedgeCount() + c.motionCount() + c.season(), 0);
        Check.equal("42 the next id too", c.propose(1, 1), 0);

        HedgeCommittee longest = empty();
        type(longest, "season;season;season;season;season;season;season;season");
        Check.equal("42 eight commands", longest.run(), 8);
        type(longest, "hedge 12 3 4;hedge 12 3 4;hedge 12 3 4;hedge 12 3 4;season;");
        Check.thrown("42 too long for the buffer", STATE, () -> {
            type(longest, "season");
            return 0;
        });
        HedgeCommittee sixty = empty();
        type(sixty, "hedge 12 3 4;hedge 12 3 4;hedge 12 3 4;hedge 12 3 4;main 1 1");
        Check.equal("42 sixty characters", sixty.run(), 5);
    }

    private static void promise42RunOfEachCommand() {
        HedgeCommittee c = withTrees();
        type(c, "prune 0 1");
        Check.equal("42 prune", c.run(), 1);
        Check.equal("42 prune", c.motionCount(), 5);
        type(c, "regrow 5;vote 7;vote 6");
        Check.equal("42 regrow and vote", c.run(), 3);
        Check.equal("42 regrow and vote", c.isTip(5), true);
        Check.equal("42 thorns are spent", c.thorns(1), 1);
        Check.equal("42 nothing else is done", c.season(), 0);
        type(c, "season;season;season;season;hedge 7 1 2;main 3 4;amend 8 5 6");
        Check.equal("42 the rest", c.run(), 7);
        Check.equal("42 the rest", line(c, 8), "8:3*4(9:5*6)");
        Check.equal("42 thorns in spring", c.thorns(1), 2);
        Check.equal("42 undo of the last run", c.undo(), 7);
        Check.equal("42 undo of the last run", c.motionCount(), 4);
        Check.equal("42 undo of the run before", c.undo(), 6);
        Check.equal("42 undo of the run before", c.isTip(5), false);
        Check.equal("42 undo of the first run", c.undo(), 5);
        Check.equal("42 undo of the first run", c.motionCount(), 7);
    }

    private static void fails(HedgeCommittee c, String text, int command) {
        String before = picture(c);
        Check.equal("42 buffer before " + text, c.append(text.charAt(0)), 1);
        type(c, text.substring(1));
        Check.thrown("42 run " + text, UNSUPPORTED, c::run);
        Check.equal("44 failed command of " + text, c.failedCommand(), command);
        Check.equal("42 no effect of " + text, picture(c), before);
    }

    private static void promise42RunThatFails() {
        HedgeCommittee c = withTrees();
        fails(c, "hedge 0 1 1", 0);
        fails(c, "season;main 1 0", 1);
        fails(c, "main 1 21", 0);
        fails(c, "main 1 99;season", 0);
        fails(c, "vote 6;vote 5;vote 5", 2);
        fails(c, "amend 7 1 1", 0);
        fails(c, "main 1 1;amend 7 1 1;amend 8 2 21", 2);
        fails(c, "prune 0 0;prune 1 0", 1);
        fails(c, "regrow 99", 0);
        fails(c, "regrow 0;regrow 0;regrow 0;regrow 0;regrow 0;regrow 0", 5);
        fails(c, "vote 0", 0);
        Check.equal("42 the next id is as before", c.propose(1, 1), 7);
        HedgeCommittee bare = withMotions(12);
        fails(bare, "vote 0", 0);
        fails(bare, "main 1 1", 0);
    }

    private static void errorAt(String text, int due) {
        HedgeCommittee c = empty();
        type(c, text);
        Check.thrown("42 run of " + text, ARGUMENT, c::run);
        Check.equal("43 error position of " + text, c.errorPosition(), due);
        Check.equal("42 the buffer is empty", c.append('x'), 1);
    }

    private static void promise43ErrorPosition() {
        Check.thrown("43 none", ELEMENT, () -> empty().errorPosition());
        errorAt("", 0);
        errorAt(" ", 0);
        errorAt(";", 0);
        errorAt("x", 0);
        errorAt("Hedge 1 1 1", 0);
        errorAt("\u0068\u0665", 1);
        for (String whole : new String[] {"hedge 12 3 4", "main 1 23", "amend 12 3 45",
            "prune 12 3", "regrow 12", "vote 12", "season"}) {
            int least = whole.endsWith("2") || whole.endsWith("3") && whole.startsWith("main")
                    || whole.startsWith("amend") ? whole.length() - 1 : whole.length();
            for (int length = 0; length < least; length++) {
                errorAt(whole.substring(0, length), length);
                errorAt(whole.substring(0, length) + "!", length);
                errorAt("season;" + whole.substring(0, length), 7 + length);
            }
            errorAt(whole + ";", whole.length() + 1);
            errorAt(whole + " ", whole.length());
            errorAt(whole + "0", whole.length());
            errorAt(whole + ";;", whole.length() + 1);
            errorAt(whole + "; season", whole.length() + 1);
        }
        errorAt("hedge  1 1 1", 6);
        errorAt("hedge 123 1 1", 8);
        errorAt("hedge 1 12 1", 9);
        errorAt("hedge 12 1;", 10);
        errorAt("main 12 1", 6);
        errorAt("main 1 1 1", 8);
        errorAt("amend 1 23 1", 9);
        errorAt("prune -1 0", 6);
        errorAt("vote /", 5);
        errorAt("vote :", 5);
        errorAt("vote 1/", 6);
        errorAt("vote 1:", 6);
        errorAt("season;vote 1,season", 13);
        errorAt("hedge 12 3 4;hedge 12 3 4;hedge 12 3 4;hedge 12 3 4;season;r", 60);
        errorAt("hedge 12 3 4;hedge 12 3 4;hedge 12 3 4;hedge 12 3 4;main 1 ;", 59);
        errorAt("hedge 12 3 4;hedge 12 3 4;hedge 12 3 4;hedge 12 3 4;vote 12;", 60);
        errorAt("hedge 12 3 4;hedge 12 3 4;hedge 12 3 4;hedge 12 3 4;amend 1 ", 60);
        errorAt("hedge 12 3 4;hedge 12 3 4;hedge 12 3 4;hedge 12 3 4;regrow  ", 59);

        HedgeCommittee c = empty();
        type(c, "seasonal");
        Check.thrown("43 stored", ARGUMENT, c::run);
        type(c, "season");
        Check.equal("43 a good run", c.run(), 1);
        Check.equal("43 stays", c.errorPosition(), 6);
        c.undo();
        c.save();
        c.restore();
        Check.equal("43 stays", c.errorPosition(), 6);
        type(c, "vote 0");
        Check.thrown("43 a run that fails", UNSUPPORTED, c::run);
        Check.equal("43 stays", c.errorPosition(), 6);
        type(c, "x");
        Check.thrown("43 replaced", ARGUMENT, c::run);
        Check.equal("43 replaced", c.errorPosition(), 0);
    }

    private static void promise44FailedCommand() {
        HedgeCommittee c = empty();
        Check.thrown("44 none", ELEMENT, c::failedCommand);
        type(c, "x");
        Check.thrown("44 no program", ARGUMENT, c::run);
        Check.thrown("44 none yet", ELEMENT, c::failedCommand);
        fails(c, "season;season;vote 0", 2);
        type(c, "season");
        c.run();
        c.undo();
        c.save();
        c.restore();
        Check.equal("44 stays", c.failedCommand(), 2);
        type(c, "x");
        Check.thrown("44 no program", ARGUMENT, c::run);
        Check.equal("44 stays", c.failedCommand(), 2);
        fails(c, "vote 0", 0);
    }

    // ---- output

    private static void promise45WriteBranch() {
        HedgeCommittee c = withTrees();
        Check.equal("45 length", c.writeBranch(0), 33);
        Check.equal("45 line", line(c, 0), "0:4*10(1:5*6(3:7*8(4:8*2)),2:6*3)");
        Check.equal("45 a tip", line(c, 2), "2:6*3");
        Check.equal("45 another tree", line(c, 5), "5:2*5(6:9*5)");
        for (int id : NO_IDS) {
            Check.thrown("45 no motion", ELEMENT, () -> c.writeBranch(id));
        }
        Check.equal("45 the line stays", c.outputAt(11), ')');
        Check.thrown("45 and grows no longer", INDEX, () -> c.outputAt(12));

        HedgeCommittee example = withMotions(3);
        example.propose(5, 7);
        example.amend(3, 1, 2);
        example.propose(0, 1);
        example.amend(3, 0, 1);
        example.amend(6, 9, 3);
        Check.equal("45 the example", line(example, 3), "3:5*7(4:1*2,6:0*1(7:9*3))");
    }

    private static void promise45WriteBranchOfManyMotions() {
        HedgeCommittee chain = empty();
        StringBuilder due = new StringBuilder("0:1*2");
        chain.propose(1, 2);
        for (int i = 1; i < 12; i++) {
            chain.amend(i - 1, 1, 2);
            due.append('(').append(i).append(":1*2");
        }
        Check.equal("45 the deepest branch", line(chain, 0), due + ")))))))))))");
        HedgeCommittee wide = empty();
        due.setLength(0);
        wide.propose(1, 2);
        for (int i = 1; i < 12; i++) {
            wide.amend(0, 1, 2);
            due.append(i == 1 ? "0:1*2(" : ",").append(i).append(":1*2");
        }
        Check.equal("45 the widest branch", line(wide, 0), due + ")");

        HedgeCommittee high = withHedges();
        for (int i = 0; i < 102; i++) {
            high.propose(5, 20);
            high.vote(i);
        }
        high.propose(5, 20);
        for (int i = 0; i < 60; i++) {
            high.amend(102, 5, 20);
            high.vote(103 + i);
        }
        Check.equal("45 long numbers", line(high, 102), "102:5*1220");
    }

    private static void promise46OutputAt() {
        HedgeCommittee c = withTrees();
        Check.thrown("46 empty at first", INDEX, () -> c.outputAt(0));
        c.writeBranch(0);
        c.writeBranch(5);
        String due = "5:2*5(6:9*5)";
        for (int index = 0; index < due.length(); index++) {
            Check.equal("46 character " + index, c.outputAt(index), due.charAt(index));
        }
        for (int index : new int[] {-1, 12, Integer.MIN_VALUE, Integer.MAX_VALUE}) {
            Check.thrown("46 index", INDEX, () -> c.outputAt(index));
        }
        c.prune(5, 0);
        c.undo();
        c.save();
        c.restore();
        Check.equal("46 the line stays", c.outputAt(11), ')');
        Check.equal("46 the line stays", c.outputAt(0), '5');
    }

    // ---- undo and snapshot

    private static void promise47Undo() {
        HedgeCommittee c = empty();
        Check.thrown("47 none", STATE, c::undo);
        for (int i = 0; i < 10; i++) {
            c.propose(0, 1 + i);
        }
        for (int left = 7; left >= 0; left--) {
            Check.equal("47 left", c.undo(), left);
            Check.equal("47 motions", c.motionCount(), 2 + left);
        }
        Check.thrown("47 only eight", STATE, c::undo);
        Check.equal("47 nothing changed", c.motionCount(), 2);
        Check.equal("47 the id is given again", c.propose(3, 3), 2);
        Check.equal("47 weight", c.weight(2), 3);
        for (int i = 0; i < 5; i++) {
            c.passSeason();
        }
        Check.equal("47 left", c.undo(), 5);
        Check.equal("47 left", c.undo(), 4);
        Check.equal("47 season", c.season(), 3);
        Check.equal("47 no change", c.prune(0, 0), 0);
        Check.equal("47 undone though it changed nothing", c.undo(), 4);
        Check.equal("47 season", c.season(), 3);
        for (int i = 0; i < 6; i++) {
            c.passSeason();
        }
        Check.equal("47 at most eight", c.undo(), 7);
        for (int left = 6; left >= 0; left--) {
            Check.equal("47 left", c.undo(), left);
        }
        Check.equal("47 the oldest of eight", c.season(), 1);
        Check.thrown("47 no more", STATE, c::undo);
        c.passSeason();
        Check.thrown("47 a call that throws", ARGUMENT, () -> c.propose(10, 1));
        Check.thrown("47 a call that throws", ELEMENT, () -> c.vote(99));
        Check.equal("47 is not undone", c.undo(), 0);
        Check.equal("47 season", c.season(), 1);
    }

    /** With trees, where a tip was carried before, one rejected and one vetoed. */
    private static HedgeCommittee withVotes() {
        HedgeCommittee c = withTrees();
        c.propose(0, 7);
        Check.equal("47 rejected", c.vote(7), 'r');
        Check.equal("47 carried", c.vote(2), 'c');
        Check.equal("47 vetoed", c.vote(4), 'v');
        c.prune(5, 0);
        c.propose(5, 11);
        Check.equal("47 adopted", c.vote(8), 'c');
        c.amend(0, 0, 3);
        return c;
    }

    private static int runText(HedgeCommittee c, String text) {
        type(c, text);
        return c.run();
    }

    private static void isUndone(String what, HedgeCommittee c, Check.Call change) {
        String before = picture(c);
        change.answer();
        Check.equal("47 " + what + " differs", picture(c).equals(before), false);
        Check.equal("47 left after " + what, c.undo(), 7);
        Check.equal("47 " + what + " is undone", picture(c), before);
    }

    private static void promise47UndoOfEachChange() {
        HedgeCommittee hedge = withVotes();
        isUndone("addHedge", hedge, () -> hedge.addHedge(9, 9, 9));
        HedgeCommittee main = withVotes();
        isUndone("propose", main, () -> main.propose(1, 1));
        HedgeCommittee amended = withVotes();
        isUndone("amend", amended, () -> amended.amend(3, 1, 1));
        HedgeCommittee pruned = withVotes();
        isUndone("prune", pruned, () -> pruned.prune(0, 0));
        HedgeCommittee grown = withVotes();
        isUndone("regrow", grown, () -> grown.regrow(5));
        HedgeCommittee carried = withVotes();
        isUndone("vote, carried", carried, () -> carried.vote(5));
        HedgeCommittee rejected = withVotes();
        isUndone("vote, rejected", rejected, () -> rejected.vote(9));
        HedgeCommittee vetoed = withVotes();
        isUndone("vote, vetoed", vetoed, () -> vetoed.vote(3));
        HedgeCommittee season = withVotes();
        isUndone("passSeason", season, season::passSeason);
        HedgeCommittee program = withVotes();
        isUndone("run", program, () -> runText(program, "season;vote 9;vote 5;vote 3;main 1 1"));
        program.append('x');
        program.passSeason();
        program.undo();
        Check.equal("47 the buffer stays", program.append('y'), 2);
    }

    private static void promise47UndoAfterFailures() {
        HedgeCommittee c = withTrees();
        String[] before = new String[9];
        for (int i = 0; i < before.length; i++) {
            before[i] = picture(c);
            c.passSeason();
        }
        Check.thrown("47 a call that throws", ARGUMENT, () -> c.propose(10, 1));
        fails(c, "season;hedge 0 0 0", 1);
        type(c, "seasons");
        Check.thrown("47 a run that throws", ARGUMENT, c::run);
        for (int left = 7; left >= 0; left--) {
            Check.equal("47 left after failures", c.undo(), left);
            Check.equal("47 undone after failures", picture(c), before[left + 1]);
        }
        Check.thrown("47 only eight", STATE, c::undo);
    }

    private static void promise48Save() {
        HedgeCommittee c = withTrees();
        String before = picture(c);
        c.save();
        Check.equal("48 saving changes nothing", picture(c), before);
        c.vote(4);
        c.save();
        Check.equal("48 saving is not a changing call", c.undo(), 7);
        Check.equal("48 undo leaps over it", picture(c), before);
        c.restore();
        Check.equal("48 replaces the saved state", c.motionCount(), 6);
        Check.equal("48 undo does not touch it", c.carriedShare(), 0.0f);
        HedgeCommittee fresh = empty();
        fresh.save();
        fresh.propose(1, 1);
        fresh.restore();
        Check.equal("48 an empty state", fresh.motionCount(), 0);
        Check.equal("48 the next id too", fresh.propose(1, 1), 0);
    }

    private static Object restore(HedgeCommittee c) {
        c.restore();
        return "restored";
    }

    private static void promise49Restore() {
        HedgeCommittee c = withTrees();
        Check.thrown("49 none saved", STATE, () -> restore(c));
        Check.equal("49 nothing changed", c.undo(), 7);
        String before = picture(c);
        c.save();
        c.vote(4);
        c.passSeason();
        c.propose(1, 1);
        c.propose(1, 1);
        c.append('x');
        c.restore();
        Check.equal("49 restored", picture(c), before);
        Check.thrown("49 no undo afterwards", STATE, c::undo);
        Check.equal("49 the buffer stays", c.append('x'), 2);
        Check.equal("49 the next id too", c.propose(1, 1), 6);
        c.vote(4);
        c.restore();
        Check.equal("49 stays saved", picture(c), before);
        c.vote(4);
        Check.equal("49 undo begins anew", c.undo(), 0);
        Check.equal("49 undo begins anew", picture(c), before);
    }

    private static void promise49RestoreOfEachPart() {
        HedgeCommittee c = withVotes();
        c.passSeason();
        String before = picture(c);
        c.save();
        c.addHedge(9, 9, 9);
        c.vote(9);
        c.vote(5);
        c.propose(9, 8);
        c.prune(0, 0);
        c.vote(0);
        c.passSeason();
        c.restore();
        Check.equal("49 each part", picture(c), before);
        HedgeCommittee taste = empty();
        taste.propose(5, 1);
        taste.addHedge(3, 0, 5);
        taste.save();
        taste.undo();
        taste.addHedge(3, 0, 0);
        Check.equal("49 another taste", taste.leavesInFavour(0), 0);
        taste.restore();
        Check.equal("49 the saved taste", taste.leavesInFavour(0), 3);
    }
}
