/** The boundaries of the promises 9 to 40: the queries, of empty and of full committees. */
public final class QueriesBoundaryTest {
    private static final Refusals FRESH = new Refusals("fresh", Makers::fresh);
    private static final Refusals MIDWAY = new Refusals("midway", Makers::midway);
    private static final Refusals FULL = new Refusals("full", Makers::full);
    private static final Refusals WITHOUT_HEDGES =
            new Refusals("without hedges", Makers::withoutHedges);
    /** No ids of midway: beyond the ends, removed in four ways, and the next one. */
    private static final int[] NO_IDS_MIDWAY =
            {-1, 2, 6, 7, 8, 9, Integer.MIN_VALUE, Integer.MAX_VALUE};
    private static final int[] NO_IDS_FULL = Refusals.beyond(0, 11);
    private static final int[] NO_PLACE = Refusals.beyond(1, -1);

    private QueriesBoundaryTest() {
    }

    public static void main(String[] args) {
        promise09HedgeCount();
        promise10Leaves();
        promise11Thorns();
        promise12HedgeAtRank();
        promise13LeavesInFavour();
        promise14WouldVeto();
        promise15MotionCount();
        promise16MotionAt();
        promise17Tone();
        promise18Weight();
        promise19Parent();
        promise20Depth();
        promise21IsTip();
        promise22BranchSize();
        promise23LastTip();
        promise24MotionAtRank();
        promise25CommonMotion();
        promise26CommonMotionByRows();
        promise27PathSize();
        promise28LongestPath();
        promise29LongestPathBySweeps();
        promise30BestWorth();
        promise31BestWorthBySets();
        promise32GoodSets();
        promise33Season();
        promise34MinutesIn();
        promise35AdoptedWeight();
        promise36WeightTotal();
        promise37WeightByAccounts();
        promise38MeanLeaves();
        promise39CarriedShare();
        promise40IsConsistent();
        Check.finish();
    }

    /** A query without numbers changes nothing. */
    private static void isQuiet(String what, Refusals.Use query) {
        FRESH.changesNothing(what, query);
        MIDWAY.changesNothing(what, query);
        FULL.changesNothing(what, query);
    }

    /** A query by a number changes nothing, where it is taken and where it is refused. */
    private static void isQuiet(String what, Refusals.UseOfNumber query) {
        for (int number : new int[] {-1, 0, 1, 3, 5}) {
            isQuiet(what + " of " + number, c -> query.on(c, number));
        }
    }

    /** A query by id is refused where there is none, and changes nothing where it is taken. */
    private static void byId(String what, Refusals.UseOfNumber query) {
        isQuiet(what, query);
        FRESH.due(what, Refusals.ELEMENT, NO_PLACE, query);
        MIDWAY.due(what, Refusals.ELEMENT, NO_IDS_MIDWAY, query);
        FULL.due(what, Refusals.ELEMENT, NO_IDS_FULL, query);
    }

    private static void answers(String what, Refusals.UseOfNumber query, Object first, Object last) {
        HedgeCommittee c = Makers.full();
        Check.equal(what + " of the first", query.on(c, 0), first);
        Check.equal(what + " of the last", query.on(c, 11), last);
    }

    // ---- hedges

    private static void promise09HedgeCount() {
        isQuiet("9 hedgeCount", HedgeCommittee::hedgeCount);
        HedgeCommittee c = Makers.fresh();
        for (int hedges = 0; hedges < 6; hedges++) {
            Check.equal("9 hedges", c.hedgeCount(), hedges);
            c.addHedge(1, 0, 0);
        }
        Check.equal("9 six", c.hedgeCount(), 6);
        Check.thrown("9 no seventh", Refusals.STATE, () -> c.addHedge(1, 0, 0));
        Check.equal("9 still six", c.hedgeCount(), 6);
    }

    private static void promise10Leaves() {
        isQuiet("10 leaves", HedgeCommittee::leaves);
        FRESH.due("10 leaves", Refusals.INDEX, NO_PLACE, HedgeCommittee::leaves);
        MIDWAY.range("10 leaves", Refusals.INDEX, 0, 2, HedgeCommittee::leaves);
        FULL.range("10 leaves", Refusals.INDEX, 0, 5, HedgeCommittee::leaves);
        HedgeCommittee c = Makers.full();
        Check.equal("10 leaves of the first", c.leaves(0), 99);
        Check.equal("10 leaves of the last", c.leaves(5), 20);
    }

    private static void promise11Thorns() {
        isQuiet("11 thorns", HedgeCommittee::thorns);
        FRESH.due("11 thorns", Refusals.INDEX, NO_PLACE, HedgeCommittee::thorns);
        MIDWAY.range("11 thorns", Refusals.INDEX, 0, 2, HedgeCommittee::thorns);
        FULL.range("11 thorns", Refusals.INDEX, 0, 5, HedgeCommittee::thorns);
        HedgeCommittee c = Makers.full();
        Check.equal("11 thorns of the second", c.thorns(1), 0);
        Check.equal("11 thorns of the last", c.thorns(5), 9);
    }

    private static void promise12HedgeAtRank() {
        isQuiet("12 hedgeAtRank", HedgeCommittee::hedgeAtRank);
        FRESH.due("12 hedgeAtRank", Refusals.ELEMENT, NO_PLACE, HedgeCommittee::hedgeAtRank);
        MIDWAY.range("12 hedgeAtRank", Refusals.ELEMENT, 0, 2, HedgeCommittee::hedgeAtRank);
        FULL.range("12 hedgeAtRank", Refusals.ELEMENT, 0, 5, HedgeCommittee::hedgeAtRank);
        HedgeCommittee c = Makers.full();
        int[] due = {0, 2, 3, 5, 4, 1};
        HedgeCommittee alike = Makers.fresh();
        for (int rank = 0; rank < 6; rank++) {
            Check.equal("12 rank " + rank + " of six", c.hedgeAtRank(rank), due[rank]);
            alike.addHedge(7, 7, 9 - rank);
        }
        for (int rank = 0; rank < 6; rank++) {
            Check.equal("12 rank " + rank + " of six alike", alike.hedgeAtRank(rank), rank);
        }
        HedgeCommittee one = Makers.mains(1);
        Check.equal("12 rank 0 of one", one.hedgeAtRank(0), 0);
        Check.thrown("12 rank 1 of one", Refusals.ELEMENT, () -> one.hedgeAtRank(1));
    }

    private static void promise13LeavesInFavour() {
        byId("13 leavesInFavour", HedgeCommittee::leavesInFavour);
        answers("13 leavesInFavour", HedgeCommittee::leavesInFavour, 119, 219);
        Check.equal("13 without hedges", Makers.withoutHedges().leavesInFavour(0), 0);
        HedgeCommittee all = Makers.fresh();
        for (int i = 0; i < 6; i++) {
            all.addHedge(99, 0, i);
        }
        all.propose(3, 1);
        all.propose(9, 1);
        Check.equal("13 all in favour", all.leavesInFavour(0), 594);
        Check.equal("13 none in favour", all.leavesInFavour(1), 0);
    }

    private static void promise14WouldVeto() {
        isQuiet("14 wouldVeto of the first", (c, n) -> c.wouldVeto(0, n));
        isQuiet("14 wouldVeto about the first", (c, n) -> c.wouldVeto(n, 0));
        for (int hedge : new int[] {0, 2}) {
            MIDWAY.due("14 wouldVeto of hedge " + hedge, Refusals.ELEMENT, NO_IDS_MIDWAY,
                    (c, n) -> c.wouldVeto(hedge, n));
        }
        FULL.due("14 wouldVeto", Refusals.ELEMENT, NO_IDS_FULL, (c, n) -> c.wouldVeto(5, n));
        MIDWAY.range("14 wouldVeto", Refusals.INDEX, 0, 2, (c, n) -> c.wouldVeto(n, 0));
        FULL.range("14 wouldVeto", Refusals.INDEX, 0, 5, (c, n) -> c.wouldVeto(n, 11));
        FULL.due("14 wouldVeto about none", Refusals.INDEX, Refusals.beyond(0, 5),
                (c, n) -> c.wouldVeto(n, 12));
        FRESH.due("14 wouldVeto of none about none", Refusals.INDEX, c -> c.wouldVeto(0, 0));
        WITHOUT_HEDGES.due("14 wouldVeto of none", Refusals.INDEX, c -> c.wouldVeto(0, 0));
        HedgeCommittee c = Makers.full();
        Check.equal("14 difference 9, nine thorns", c.wouldVeto(0, 1), true);
        Check.equal("14 difference 9, no thorn", c.wouldVeto(1, 0), false);
        Check.equal("14 difference 7, nine thorns", c.wouldVeto(5, 0), true);
        Check.equal("14 difference 6, nine thorns", c.wouldVeto(5, 9), false);
        Check.equal("14 difference 5, one thorn", c.wouldVeto(2, 0), false);
    }

    // ---- motions

    private static void promise15MotionCount() {
        isQuiet("15 motionCount", HedgeCommittee::motionCount);
        HedgeCommittee c = Makers.fresh();
        for (int motions = 0; motions < 12; motions++) {
            Check.equal("15 motions", c.motionCount(), motions);
            c.propose(0, 1);
        }
        Check.equal("15 twelve", c.motionCount(), 12);
        Check.thrown("15 no thirteenth", Refusals.STATE, () -> c.propose(0, 1));
        Check.equal("15 still twelve", c.motionCount(), 12);
    }

    private static void promise16MotionAt() {
        isQuiet("16 motionAt", HedgeCommittee::motionAt);
        FRESH.due("16 motionAt", Refusals.INDEX, NO_PLACE, HedgeCommittee::motionAt);
        MIDWAY.range("16 motionAt", Refusals.INDEX, 0, 4, HedgeCommittee::motionAt);
        FULL.range("16 motionAt", Refusals.INDEX, 0, 11, HedgeCommittee::motionAt);
        HedgeCommittee c = Makers.midway();
        Check.equal("16 the first", c.motionAt(0), 0);
        Check.equal("16 behind a gap", c.motionAt(2), 3);
        Check.equal("16 the last", c.motionAt(4), 5);
        Check.equal("16 the last of twelve", Makers.full().motionAt(11), 11);
    }

    private static void promise17Tone() {
        byId("17 tone", HedgeCommittee::tone);
        answers("17 tone", HedgeCommittee::tone, 0, 3);
    }

    private static void promise18Weight() {
        byId("18 weight", HedgeCommittee::weight);
        answers("18 weight", HedgeCommittee::weight, 1, 2);
    }

    private static void promise19Parent() {
        byId("19 parent", HedgeCommittee::parent);
        MIDWAY.due("19 parent of a main motion", Refusals.ELEMENT, new int[] {0, 4},
                HedgeCommittee::parent);
        FULL.due("19 parent of a main motion", Refusals.ELEMENT, new int[] {0, 5, 7, 8},
                HedgeCommittee::parent);
        HedgeCommittee c = Makers.full();
        Check.equal("19 parent of the first amendment", c.parent(1), 0);
        Check.equal("19 parent of the last amendment", c.parent(11), 10);
        HedgeCommittee gap = Makers.midway();
        Check.equal("19 an id and not a position", gap.parent(5), 4);
    }

    private static void promise20Depth() {
        byId("20 depth", HedgeCommittee::depth);
        answers("20 depth", HedgeCommittee::depth, 0, 3);
        Check.equal("20 deepest", Makers.chain().depth(11), 11);
    }

    private static void promise21IsTip() {
        byId("21 isTip", HedgeCommittee::isTip);
        answers("21 isTip", HedgeCommittee::isTip, false, true);
    }

    private static void promise22BranchSize() {
        byId("22 branchSize", HedgeCommittee::branchSize);
        answers("22 branchSize", HedgeCommittee::branchSize, 5, 1);
        Check.equal("22 all of a chain", Makers.chain().branchSize(0), 12);
        Check.equal("22 all of a star", Makers.star().branchSize(0), 12);
    }

    private static void promise23LastTip() {
        byId("23 lastTip", HedgeCommittee::lastTip);
        answers("23 lastTip", HedgeCommittee::lastTip, 4, 11);
        Check.equal("23 of a chain", Makers.chain().lastTip(0), 11);
        Check.equal("23 of a star", Makers.star().lastTip(0), 11);
        Check.equal("23 of a motion alone", Makers.mains(12).lastTip(0), 0);
    }

    private static void promise24MotionAtRank() {
        isQuiet("24 motionAtRank", HedgeCommittee::motionAtRank);
        FRESH.due("24 motionAtRank", Refusals.INDEX, NO_PLACE, HedgeCommittee::motionAtRank);
        MIDWAY.range("24 motionAtRank", Refusals.INDEX, 0, 4, HedgeCommittee::motionAtRank);
        FULL.range("24 motionAtRank", Refusals.INDEX, 0, 11, HedgeCommittee::motionAtRank);
        HedgeCommittee c = Makers.full();
        int[] due = {5, 1, 3, 4, 7, 8, 2, 9, 10, 11, 0, 6};
        HedgeCommittee chain = Makers.chain();
        HedgeCommittee star = Makers.star();
        for (int rank = 0; rank < 12; rank++) {
            Check.equal("24 rank " + rank + " of twelve", c.motionAtRank(rank), due[rank]);
            Check.equal("24 rank " + rank + " by depth", chain.motionAtRank(rank), rank);
            Check.equal("24 rank " + rank + " by id", star.motionAtRank(rank), rank);
        }
    }

    // ---- trees

    private interface Common {
        Object of(HedgeCommittee c, int one, int other);
    }

    /** Refused for an id of none at either place, and for two trees; taken for one motion twice. */
    private static void byTwoIds(String what, Common query) {
        byId(what + " to the first", (c, n) -> query.of(c, n, 0));
        byId(what + " from the first", (c, n) -> query.of(c, 0, n));
        byId(what + " of one twice", (c, n) -> query.of(c, n, n));
        MIDWAY.due(what + " of two of none", Refusals.ELEMENT, c -> query.of(c, 2, 9));
        int[][] apart = {{0, 4}, {4, 0}, {3, 5}, {5, 3}, {0, 5}, {4, 3}, {1, 4}};
        for (int[] pair : apart) {
            MIDWAY.due(what + " of " + pair[0] + " and " + pair[1], Refusals.UNSUPPORTED,
                    c -> query.of(c, pair[0], pair[1]));
        }
        int[][] apartOfFull = {{0, 11}, {11, 0}, {7, 8}, {8, 7}, {6, 4}, {4, 6}};
        for (int[] pair : apartOfFull) {
            FULL.due(what + " of " + pair[0] + " and " + pair[1], Refusals.UNSUPPORTED,
                    c -> query.of(c, pair[0], pair[1]));
        }
    }

    private static void commonOfEnds(String what, Common query) {
        HedgeCommittee chain = Makers.chain();
        HedgeCommittee star = Makers.star();
        for (int id = 0; id < 12; id++) {
            Check.equal(what + " of one twice", query.of(chain, id, id), id);
            Check.equal(what + " with the deepest", query.of(chain, id, 11), id);
            Check.equal(what + " with the main motion", query.of(chain, 0, id), 0);
            Check.equal(what + " in a star", query.of(star, id, 11), id == 11 ? 11 : 0);
        }
        Check.equal(what + " of a motion alone", query.of(Makers.mains(1), 0, 0), 0);
        Check.equal(what + " behind a gap", query.of(Makers.midway(), 3, 1), 1);
        Check.equal(what + " of tips of the full", query.of(Makers.full(), 3, 4), 2);
        Check.equal(what + " of uneven tips", query.of(Makers.full(), 1, 4), 0);
    }

    private static void promise25CommonMotion() {
        byTwoIds("25 commonMotion", HedgeCommittee::commonMotion);
        commonOfEnds("25 commonMotion", HedgeCommittee::commonMotion);
    }

    private static void promise26CommonMotionByRows() {
        byTwoIds("26 commonMotionByRows", HedgeCommittee::commonMotionByRows);
        commonOfEnds("26 commonMotionByRows", HedgeCommittee::commonMotionByRows);
    }

    private static void promise27PathSize() {
        byTwoIds("27 pathSize", HedgeCommittee::pathSize);
        HedgeCommittee chain = Makers.chain();
        HedgeCommittee star = Makers.star();
        for (int id = 0; id < 12; id++) {
            Check.equal("27 path of one", chain.pathSize(id, id), 1);
            Check.equal("27 path down a chain", chain.pathSize(0, id), id + 1);
            Check.equal("27 path up a chain", chain.pathSize(11, id), 12 - id);
        }
        Check.equal("27 path in a star", star.pathSize(1, 11), 3);
    }

    private static void longestIs(String what, Refusals.UseOfNumber query) {
        byId(what, query);
        for (int id = 0; id < 12; id++) {
            Check.equal(what + " of a motion alone", query.on(Makers.mains(12), id), 1);
            Check.equal(what + " of a chain", query.on(Makers.chain(), id), 12 - id);
            Check.equal(what + " of a star", query.on(Makers.star(), id), id == 0 ? 3 : 1);
        }
        int[] due = {4, 1, 3, 1, 1, 2, 1, 1, 4, 3, 2, 1};
        for (int id = 0; id < 12; id++) {
            Check.equal(what + " of " + id + " of the full", query.on(Makers.full(), id), due[id]);
        }
        Check.equal(what + " of two arms", query.on(twoArms(), 0), 12);
        Check.equal(what + " of one arm", query.on(twoArms(), 1), 6);
    }

    private static void promise28LongestPath() {
        longestIs("28 longestPath", HedgeCommittee::longestPath);
    }

    private static void promise29LongestPathBySweeps() {
        longestIs("29 longestPathBySweeps", HedgeCommittee::longestPathBySweeps);
    }

    /** A main motion with arms of six and of five amendments. */
    private static HedgeCommittee twoArms() {
        HedgeCommittee c = Makers.chainOf(7);
        c.amend(0, 5, 2);
        for (int id = 7; id < 11; id++) {
            c.amend(id, 5, 2);
        }
        return c;
    }

    private static void bestIs(String what, Refusals.Use best) {
        isQuiet(what, best);
        Check.equal(what + " of none", best.on(Makers.fresh()), 0);
        Check.equal(what + " of one", best.on(Makers.mains(1)), 1);
        Check.equal(what + " of twelve apart", best.on(Makers.mains(12)), 78);
        Check.equal(what + " of a chain of twelve", best.on(Makers.chain()), 12);
        Check.equal(what + " of a star of twelve", best.on(Makers.star()), 22);
        Check.equal(what + " of the full committee", best.on(Makers.full()), 36 + 20 + 7 + 9);
        HedgeCommittee heaviest = Makers.fresh();
        for (int i = 0; i < 12; i++) {
            heaviest.propose(0, 20);
        }
        Check.equal(what + " of the heaviest", best.on(heaviest), 240);
        HedgeCommittee emptied = Makers.mains(1);
        emptied.vote(0);
        Check.equal(what + " of none any more", best.on(emptied), 0);
    }

    private static void promise30BestWorth() {
        bestIs("30 bestWorth", HedgeCommittee::bestWorth);
    }

    private static void promise31BestWorthBySets() {
        bestIs("31 bestWorthBySets", HedgeCommittee::bestWorthBySets);
    }

    private static void promise32GoodSets() {
        isQuiet("32 goodSets", HedgeCommittee::goodSets);
        Check.equal("32 of none", Makers.fresh().goodSets(), 1);
        Check.equal("32 of one", Makers.mains(1).goodSets(), 2);
        Check.equal("32 of twelve apart", Makers.mains(12).goodSets(), 4096);
        Check.equal("32 of a chain", Makers.chain().goodSets(), 377);
        Check.equal("32 of a star", Makers.star().goodSets(), 2049);
        Check.equal("32 of the full committee", Makers.full().goodSets(), 14 * 3 * 2 * 8);
    }

    // ---- totals

    private static void promise33Season() {
        isQuiet("33 season", HedgeCommittee::season);
        HedgeCommittee c = Makers.fresh();
        int[] due = {0, 1, 2, 3, 0};
        for (int season : due) {
            Check.equal("33 season", c.season(), season);
            c.passSeason();
        }
    }

    private static void promise34MinutesIn() {
        isQuiet("34 minutesIn", HedgeCommittee::minutesIn);
        FRESH.range("34 minutesIn", Refusals.ARGUMENT, 0, 3, HedgeCommittee::minutesIn);
        MIDWAY.range("34 minutesIn", Refusals.ARGUMENT, 0, 3, HedgeCommittee::minutesIn);
        FULL.range("34 minutesIn", Refusals.ARGUMENT, 0, 3, HedgeCommittee::minutesIn);
        HedgeCommittee c = Makers.fresh();
        c.addHedge(50, 0, 5);
        for (int i = 0; i < 8; i++) {
            c.vote(c.propose(5, 1));
            Check.equal("34 minutes of the year before too", c.minutesIn(i % 4), 1 + i / 4);
            c.passSeason();
        }
    }

    private static void promise35AdoptedWeight() {
        isQuiet("35 adoptedWeight", HedgeCommittee::adoptedWeight);
        HedgeCommittee c = Makers.midway();
        Check.equal("35 one adopted", c.adoptedWeight(), 7);
        Check.equal("35 none adopted", Makers.full().adoptedWeight(), 0);
        HedgeCommittee twelve = Makers.mains(12);
        for (int id = 0; id < 12; id++) {
            twelve.vote(id);
        }
        Check.equal("35 all adopted", twelve.adoptedWeight(), 78);
        Check.equal("35 none left", twelve.weightByAccounts(), 0);
    }

    private static void totalIs(String what, Refusals.Use total) {
        isQuiet(what, total);
        Check.equal(what + " of none", total.on(Makers.fresh()), 0);
        Check.equal(what + " of five", total.on(Makers.midway()), 13 + 6 + 8 + 5 + 5);
        Check.equal(what + " of twelve", total.on(Makers.full()), 40 + 21 + 7 + 13);
        HedgeCommittee pruned = Makers.star();
        pruned.prune(0, 0);
        Check.equal(what + " of one", total.on(pruned), 2);
        pruned.vote(0);
        Check.equal(what + " of none any more", total.on(pruned), 0);
        Check.equal(what + " with two of each account", total.on(accounts()), 22 + 1);
    }

    private static void promise36WeightTotal() {
        totalIs("36 weightTotal", HedgeCommittee::weightTotal);
    }

    private static void promise37WeightByAccounts() {
        totalIs("37 weightByAccounts", HedgeCommittee::weightByAccounts);
    }

    /** Two motions each that were vetoed, rejected, pruned, carried to a parent and adopted. */
    private static HedgeCommittee accounts() {
        HedgeCommittee c = Makers.fresh();
        c.addHedge(50, 2, 0);
        int[] tones = {9, 8, 4, 5, 0, 0, 0, 0, 3, 2};
        char[] outcomes = {'v', 'v', 'r', 'r', 'c', 'c', 'c', 'c', 'c', 'c'};
        c.propose(0, 11);
        for (int i = 0; i < tones.length; i++) {
            int motion = i == 4 || i == 5 ? c.amend(0, tones[i], 1 + i) : c.propose(tones[i], 1 + i);
            Check.equal("37 outcome", c.vote(motion), outcomes[i]);
        }
        c.prune(0, 0);
        c.amend(0, 0, 15);
        c.amend(0, 0, 16);
        c.prune(0, 0);
        Check.equal("37 carried to the parent", c.weight(0), 11 + 5 + 6);
        Check.equal("37 adopted", c.adoptedWeight(), 7 + 8 + 9 + 10);
        c.propose(9, 1);
        return c;
    }

    private static void promise38MeanLeaves() {
        isQuiet("38 meanLeaves", HedgeCommittee::meanLeaves);
        FRESH.due("38 meanLeaves", Refusals.ARITHMETIC, c -> c.meanLeaves());
        WITHOUT_HEDGES.due("38 meanLeaves", Refusals.ARITHMETIC, c -> c.meanLeaves());
        Check.equal("38 of one", Makers.mains(1).meanLeaves(), 10.0);
        Check.equal("38 of six", Makers.full().meanLeaves(), 240.0 / 6.0);
        HedgeCommittee ends = Makers.fresh();
        ends.addHedge(1, 0, 0);
        Check.equal("38 least", ends.meanLeaves(), 1.0);
        ends.addHedge(2, 0, 0);
        Check.equal("38 not rounded", ends.meanLeaves(), 1.5);
        HedgeCommittee most = Makers.fresh();
        for (int i = 0; i < 6; i++) {
            most.addHedge(99, 0, 0);
        }
        Check.equal("38 most", most.meanLeaves(), 99.0);
    }

    private static void promise39CarriedShare() {
        isQuiet("39 carriedShare", HedgeCommittee::carriedShare);
        FRESH.due("39 carriedShare", Refusals.ARITHMETIC, c -> c.carriedShare());
        FULL.due("39 carriedShare", Refusals.ARITHMETIC, c -> c.carriedShare());
        WITHOUT_HEDGES.due("39 carriedShare after a refused vote", Refusals.ARITHMETIC, c -> {
            Check.outcome(() -> c.vote(11));
            return c.carriedShare();
        });
        Check.equal("39 two of four", Makers.midway().carriedShare(), 0.5f);
        HedgeCommittee c = Makers.mains(2);
        c.vote(0);
        Check.equal("39 one of one", c.carriedShare(), 1.0f);
        c.vote(c.propose(9, 1));
        c.vote(c.propose(0, 1));
        Check.equal("39 one of three", c.carriedShare(), 1.0f / 3.0f);
        HedgeCommittee none = Makers.fresh();
        none.addHedge(1, 1, 0);
        none.vote(none.propose(9, 1));
        Check.equal("39 none of one", none.carriedShare(), 0.0f);
    }

    private static void promise40IsConsistent() {
        isQuiet("40 isConsistent", HedgeCommittee::isConsistent);
        Check.equal("40 none", Makers.fresh().isConsistent(), true);
        Check.equal("40 one", Makers.mains(1).isConsistent(), true);
        Check.equal("40 five", Makers.midway().isConsistent(), true);
        Check.equal("40 full", Makers.full().isConsistent(), true);
        Check.equal("40 chain", Makers.chain().isConsistent(), true);
        Check.equal("40 star", Makers.star().isConsistent(), true);
        Check.equal("40 two arms", twoArms().isConsistent(), true);
        Check.equal("40 without hedges", Makers.withoutHedges().isConsistent(), true);
        Check.equal("40 twelve apart", Makers.mains(12).isConsistent(), true);
    }
}
