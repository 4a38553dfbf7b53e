/** The boundaries of the promises 1 to 8: a new object and the changes. */
public final class ChangesBoundaryTest {
    private static final Refusals FRESH = new Refusals("fresh", Makers::fresh);
    private static final Refusals MIDWAY = new Refusals("midway", Makers::midway);
    private static final Refusals FULL = new Refusals("full", Makers::full);
    private static final Refusals CHAIN = new Refusals("chain", Makers::chain);
    private static final Refusals WITHOUT_HEDGES =
            new Refusals("without hedges", Makers::withoutHedges);
    /** No ids of midway: beyond the ends, removed in four ways, and the next one. */
    private static final int[] NO_IDS_MIDWAY =
            {-1, 2, 6, 7, 8, 9, Integer.MIN_VALUE, Integer.MAX_VALUE};
    private static final int[] NO_IDS_FULL = Refusals.beyond(0, 11);

    private ChangesBoundaryTest() {
    }

    public static void main(String[] args) {
        promise01WithoutHedgesAndMotions();
        promise01NothingKept();
        promise02Ranges();
        promise02EndsAreKept();
        promise02SixHedges();
        promise03Ranges();
        promise03EndsAreKept();
        promise03TwelveMotions();
        promise04NoSuchMotion();
        promise04Ranges();
        promise04EndsAreKept();
        promise04TwelveMotions();
        promise05NoSuchMotion();
        promise05Levels();
        promise05NothingAndAll();
        promise05TheOthersStay();
        promise06NoSuchMotion();
        promise06TwelveMotions();
        promise06ToneAfter9();
        promise06AtLeast1();
        promise06LastTip();
        promise07NoSuchMotion();
        promise07NoHedges();
        promise07NotATip();
        promise07LastMotion();
        promise07TheOthersStay();
        promise08Wrap();
        promise08OfNothing();
        Check.finish();
    }

    // ---- a new object

    private static void promise01WithoutHedgesAndMotions() {
        HedgeCommittee c = Makers.fresh();
        Check.equal("1 hedges", c.hedgeCount(), 0);
        Check.equal("1 motions", c.motionCount(), 0);
        Check.equal("1 season", c.season(), 0);
        for (int season = 0; season < 4; season++) {
            Check.equal("1 minutes of " + season, c.minutesIn(season), 0);
        }
        Check.equal("1 adopted", c.adoptedWeight(), 0);
        Check.equal("1 total", c.weightTotal(), 0);
        Check.equal("1 accounts", c.weightByAccounts(), 0);
        Check.equal("1 worth", c.bestWorth(), 0);
        Check.equal("1 worth by sets", c.bestWorthBySets(), 0);
        Check.equal("1 sets", c.goodSets(), 1);
        Check.equal("1 consistent", c.isConsistent(), true);
        Check.equal("1 first hedge", c.addHedge(1, 0, 0), 0);
        Check.equal("1 first motion", c.propose(0, 1), 0);
    }

    private static void promise01NothingKept() {
        FRESH.due("leaves of 0", Refusals.INDEX, c -> c.leaves(0));
        FRESH.due("motion at 0", Refusals.INDEX, c -> c.motionAt(0));
        FRESH.due("mean of none", Refusals.ARITHMETIC, c -> c.meanLeaves());
        FRESH.due("share of none", Refusals.ARITHMETIC, c -> c.carriedShare());
        FRESH.due("error position", Refusals.ELEMENT, c -> c.errorPosition());
        FRESH.due("failed command", Refusals.ELEMENT, c -> c.failedCommand());
        FRESH.due("output", Refusals.INDEX, c -> c.outputAt(0));
        FRESH.due("undo", Refusals.STATE, c -> c.undo());
        FRESH.due("restore", Refusals.STATE, c -> {
            c.restore();
            return 0;
        });
        FRESH.dueOfRun("", Refusals.ARGUMENT, 0);
        Check.equal("1 buffer", Makers.fresh().append('x'), 1);
    }

    // ---- addHedge

    private static void promise02Ranges() {
        MIDWAY.range("addHedge by leaves", Refusals.ARGUMENT, 1, 99, (c, n) -> c.addHedge(n, 5, 5));
        MIDWAY.range("addHedge by thorns", Refusals.ARGUMENT, 0, 9, (c, n) -> c.addHedge(50, n, 5));
        MIDWAY.range("addHedge by taste", Refusals.ARGUMENT, 0, 9, (c, n) -> c.addHedge(50, 5, n));
        FRESH.range("addHedge by leaves", Refusals.ARGUMENT, 1, 99, (c, n) -> c.addHedge(n, 0, 0));
        FRESH.range("addHedge by thorns", Refusals.ARGUMENT, 0, 9, (c, n) -> c.addHedge(1, n, 0));
        FRESH.range("addHedge by taste", Refusals.ARGUMENT, 0, 9, (c, n) -> c.addHedge(1, 0, n));
        FRESH.range("addHedge by taste", Refusals.ARGUMENT, 0, 9, (c, n) -> c.addHedge(99, 9, n));
        FRESH.range("addHedge by thorns", Refusals.ARGUMENT, 0, 9, (c, n) -> c.addHedge(99, n, 9));
        FRESH.range("addHedge by leaves", Refusals.ARGUMENT, 1, 99, (c, n) -> c.addHedge(n, 9, 9));
    }

    private static void promise02EndsAreKept() {
        HedgeCommittee c = Makers.fresh();
        c.addHedge(1, 0, 0);
        c.addHedge(99, 9, 9);
        Check.equal("2 least leaves", c.leaves(0), 1);
        Check.equal("2 most leaves", c.leaves(1), 99);
        Check.equal("2 least thorns", c.thorns(0), 0);
        Check.equal("2 most thorns", c.thorns(1), 9);
        c.propose(3, 1);
        c.propose(6, 1);
        c.propose(2, 1);
        c.propose(7, 1);
        Check.equal("2 taste 0 favours 3", c.leavesInFavour(0), 1);
        Check.equal("2 taste 9 favours 6", c.leavesInFavour(1), 99);
        Check.equal("2 taste 9 vetoes 2", c.wouldVeto(1, 2), true);
        Check.equal("2 taste 9 does not veto 3", c.wouldVeto(1, 0), false);
    }

    private static void promise02SixHedges() {
        HedgeCommittee c = Makers.fresh();
        for (int i = 0; i < 6; i++) {
            Check.equal("2 index", c.addHedge(1, 0, 0), i);
        }
        Check.thrown("2 the seventh", Refusals.STATE, () -> c.addHedge(1, 0, 0));
        c.undo();
        Check.equal("2 the sixth after undo", c.addHedge(99, 9, 9), 5);
        FULL.due("addHedge of the seventh", Refusals.STATE, f -> f.addHedge(1, 0, 0));
        FULL.due("addHedge of the seventh", Refusals.STATE, f -> f.addHedge(99, 9, 9));
        FULL.due("addHedge by leaves", Refusals.ARGUMENT, Refusals.beyond(1, 99),
                (f, n) -> f.addHedge(n, 0, 0));
        FULL.due("addHedge by thorns", Refusals.ARGUMENT, Refusals.beyond(0, 9),
                (f, n) -> f.addHedge(1, n, 0));
        FULL.due("addHedge by taste", Refusals.ARGUMENT, Refusals.beyond(0, 9),
                (f, n) -> f.addHedge(1, 0, n));
    }

    // ---- propose

    private static void promise03Ranges() {
        MIDWAY.range("propose by tone", Refusals.ARGUMENT, 0, 9, (c, n) -> c.propose(n, 10));
        MIDWAY.range("propose by weight", Refusals.ARGUMENT, 1, 20, (c, n) -> c.propose(5, n));
        FRESH.range("propose by tone", Refusals.ARGUMENT, 0, 9, (c, n) -> c.propose(n, 1));
        FRESH.range("propose by weight", Refusals.ARGUMENT, 1, 20, (c, n) -> c.propose(0, n));
        FRESH.range("propose by tone", Refusals.ARGUMENT, 0, 9, (c, n) -> c.propose(n, 20));
        FRESH.range("propose by weight", Refusals.ARGUMENT, 1, 20, (c, n) -> c.propose(9, n));
    }

    private static void promise03EndsAreKept() {
        HedgeCommittee c = Makers.fresh();
        c.propose(0, 20);
        c.propose(9, 1);
        Check.equal("3 least tone", c.tone(0), 0);
        Check.equal("3 most tone", c.tone(1), 9);
        Check.equal("3 most weight", c.weight(0), 20);
        Check.equal("3 least weight", c.weight(1), 1);
        Check.equal("3 total", c.weightByAccounts(), 21);
    }

    private static void promise03TwelveMotions() {
        HedgeCommittee c = Makers.mains(11);
        Check.equal("3 the twelfth", c.propose(9, 20), 11);
        Check.thrown("3 the thirteenth", Refusals.STATE, () -> c.propose(9, 20));
        FULL.due("propose of the 13th", Refusals.STATE, f -> f.propose(0, 1));
        FULL.due("propose of the 13th", Refusals.STATE, f -> f.propose(9, 20));
        FULL.due("propose by tone", Refusals.ARGUMENT, Refusals.beyond(0, 9),
                (f, n) -> f.propose(n, 1));
        FULL.due("propose by weight", Refusals.ARGUMENT, Refusals.beyond(1, 20),
                (f, n) -> f.propose(0, n));
    }

    // ---- amend

    private static void promise04NoSuchMotion() {
        FRESH.due("amend", Refusals.ELEMENT, Refusals.beyond(1, -1), (c, n) -> c.amend(n, 0, 1));
        MIDWAY.due("amend", Refusals.ELEMENT, NO_IDS_MIDWAY, (c, n) -> c.amend(n, 5, 5));
        MIDWAY.due("amend of none, by tone", Refusals.ELEMENT, Refusals.beyond(0, 9),
                (c, n) -> c.amend(9, n, 1));
        MIDWAY.due("amend of none, by weight", Refusals.ELEMENT, Refusals.beyond(1, 20),
                (c, n) -> c.amend(-1, 0, n));
        FULL.due("amend", Refusals.ELEMENT, NO_IDS_FULL, (c, n) -> c.amend(n, 5, 5));
    }

    private static void promise04Ranges() {
        MIDWAY.range("amend by tone", Refusals.ARGUMENT, 0, 9, (c, n) -> c.amend(0, n, 10));
        MIDWAY.range("amend by weight", Refusals.ARGUMENT, 1, 20, (c, n) -> c.amend(5, 5, n));
        MIDWAY.range("amend by tone", Refusals.ARGUMENT, 0, 9, (c, n) -> c.amend(5, n, 1));
        MIDWAY.range("amend by weight", Refusals.ARGUMENT, 1, 20, (c, n) -> c.amend(0, 9, n));
    }

    private static void promise04EndsAreKept() {
        HedgeCommittee c = Makers.fresh();
        c.propose(5, 5);
        c.amend(0, 0, 20);
        c.amend(0, 9, 1);
        Check.equal("4 least tone", c.tone(1), 0);
        Check.equal("4 most tone", c.tone(2), 9);
        Check.equal("4 most weight", c.weight(1), 20);
        Check.equal("4 least weight", c.weight(2), 1);
        Check.equal("4 of the first id", c.parent(1), 0);
        Check.equal("4 of the last id", c.parent(c.amend(2, 0, 1)), 2);
    }

    private static void promise04TwelveMotions() {
        HedgeCommittee c = Makers.chainOf(11);
        Check.equal("4 the twelfth", c.amend(10, 0, 1), 11);
        Check.equal("4 its depth", c.depth(11), 11);
        Check.thrown("4 the thirteenth", Refusals.STATE, () -> c.amend(11, 0, 1));
        FULL.due("amend of the first", Refusals.STATE, f -> f.amend(0, 0, 1));
        FULL.due("amend of the last", Refusals.STATE, f -> f.amend(11, 9, 20));
        FULL.due("amend by tone", Refusals.ARGUMENT, Refusals.beyond(0, 9),
                (f, n) -> f.amend(0, n, 1));
        FULL.due("amend by weight", Refusals.ARGUMENT, Refusals.beyond(1, 20),
                (f, n) -> f.amend(0, 0, n));
        FULL.due("amend of none, by tone", Refusals.ELEMENT, Refusals.beyond(0, 9),
                (f, n) -> f.amend(12, n, 1));
    }

    // ---- prune

    private static void promise05NoSuchMotion() {
        FRESH.due("prune", Refusals.ELEMENT, Refusals.beyond(1, -1), (c, n) -> c.prune(n, 0));
        MIDWAY.due("prune", Refusals.ELEMENT, NO_IDS_MIDWAY, (c, n) -> c.prune(n, 0));
        MIDWAY.due("prune of none, by levels", Refusals.ELEMENT, Refusals.beyond(0, 9),
                (c, n) -> c.prune(9, n));
        FULL.due("prune", Refusals.ELEMENT, NO_IDS_FULL, (c, n) -> c.prune(n, 9));
    }

    private static void promise05Levels() {
        MIDWAY.range("prune by levels", Refusals.ARGUMENT, 0, 9, (c, n) -> c.prune(0, n));
        MIDWAY.range("prune of a tip", Refusals.ARGUMENT, 0, 9, (c, n) -> c.prune(5, n));
        CHAIN.range("prune by levels", Refusals.ARGUMENT, 0, 9, (c, n) -> c.prune(0, n));
        FULL.range("prune by levels", Refusals.ARGUMENT, 0, 9, (c, n) -> c.prune(11, n));
        for (int levels = 0; levels <= 9; levels++) {
            HedgeCommittee c = Makers.chain();
            Check.equal("5 removed below " + levels, c.prune(0, levels), 11 - levels);
            Check.equal("5 left above " + levels, c.motionCount(), 1 + levels);
            Check.equal("5 nothing more below " + levels, c.prune(0, levels), 0);
        }
        Check.equal("5 the last level of the chain", Makers.chain().prune(1, 9), 1);
        Check.equal("5 just below the last level", Makers.chain().prune(2, 9), 0);
        Check.equal("5 the last but one", Makers.chain().prune(10, 0), 1);
        Check.equal("5 the last", Makers.chain().prune(11, 0), 0);
    }

    private static void promise05NothingAndAll() {
        HedgeCommittee star = Makers.star();
        Check.equal("5 nothing at one level", star.prune(0, 1), 0);
        Check.equal("5 of a tip", star.prune(11, 0), 0);
        Check.equal("5 all amendments", star.prune(0, 0), 11);
        Check.equal("5 the motion itself stays", star.motionAt(0), 0);
        Check.equal("5 its weight alone", star.weightByAccounts(), 2);
        Check.equal("5 none is left below", star.prune(0, 0), 0);
        HedgeCommittee full = Makers.full();
        Check.equal("5 the first of four trees", full.prune(0, 1), 2);
        Check.equal("5 the other trees stay", full.motionCount(), 10);
        Check.equal("5 the last tree stays", full.branchSize(8), 4);
        Check.equal("5 a tip among them", full.isTip(2), true);
    }

    private static String lines(HedgeCommittee c, int... motions) {
        StringBuilder lines = new StringBuilder();
        for (int motion : motions) {
            lines.append(Makers.line(c, motion)).append(' ');
        }
        return lines.toString();
    }

    private static void promise05TheOthersStay() {
        HedgeCommittee c = Makers.full();
        Check.equal("5 removed in the middle", c.prune(2, 0), 2);
        Check.equal("5 the others stay", lines(c, 0, 5, 7, 8), "0:0*1(1:9*20,2:4*3) "
                + "5:9*20(6:0*1) 7:5*7 8:5*7(9:1*2(10:2*2(11:3*2))) ");
        Check.equal("5 removed at the end", c.prune(8, 1), 2);
        Check.equal("5 the others stay", lines(c, 5, 7, 8), "5:9*20(6:0*1) 7:5*7 8:5*7(9:1*2) ");
        Check.equal("5 removed at the beginning", c.prune(0, 0), 2);
        Check.equal("5 the others stay", lines(c, 0, 5, 7, 8),
                "0:0*1 5:9*20(6:0*1) 7:5*7 8:5*7(9:1*2) ");
    }

    // ---- regrow

    private static void promise06NoSuchMotion() {
        FRESH.due("regrow", Refusals.ELEMENT, Refusals.beyond(1, -1), HedgeCommittee::regrow);
        MIDWAY.due("regrow", Refusals.ELEMENT, NO_IDS_MIDWAY, HedgeCommittee::regrow);
        FULL.due("regrow", Refusals.ELEMENT, NO_IDS_FULL, HedgeCommittee::regrow);
    }

    private static void promise06TwelveMotions() {
        HedgeCommittee c = Makers.chainOf(11);
        Check.equal("6 the twelfth", c.regrow(0), 11);
        Check.thrown("6 the thirteenth", Refusals.STATE, () -> c.regrow(0));
        FULL.due("regrow of the first", Refusals.STATE, f -> f.regrow(0));
        FULL.due("regrow of the last", Refusals.STATE, f -> f.regrow(11));
    }

    private static void promise06ToneAfter9() {
        int[] due = {1, 2, 3, 4, 5, 6, 7, 8, 9, 0};
        for (int tone = 0; tone <= 9; tone++) {
            HedgeCommittee c = Makers.fresh();
            c.propose(tone, 20);
            Check.equal("6 tone after " + tone, c.tone(c.regrow(0)), due[tone]);
        }
    }

    private static void promise06AtLeast1() {
        for (int weight = 1; weight <= 20; weight++) {
            HedgeCommittee c = Makers.fresh();
            c.propose(0, weight);
            int due = weight == 1 ? 1 : weight / 2;
            Check.equal("6 half of " + weight, c.weight(c.regrow(0)), due);
            Check.equal("6 begins with half of " + weight, c.weightByAccounts(), weight + due);
        }
    }

    private static void promise06LastTip() {
        HedgeCommittee c = Makers.full();
        c.vote(6);
        Check.equal("6 of a motion that became a tip", c.parent(c.regrow(5)), 5);
        c.vote(1);
        Check.equal("6 the greatest of the tips", c.parent(c.regrow(0)), 4);
        c.vote(7);
        Check.equal("6 of a tip itself", c.parent(c.regrow(3)), 3);
    }

    // ---- vote

    private static void promise07NoSuchMotion() {
        FRESH.due("vote", Refusals.ELEMENT, Refusals.beyond(1, -1), HedgeCommittee::vote);
        MIDWAY.due("vote", Refusals.ELEMENT, NO_IDS_MIDWAY, HedgeCommittee::vote);
        FULL.due("vote", Refusals.ELEMENT, NO_IDS_FULL, HedgeCommittee::vote);
        WITHOUT_HEDGES.due("vote", Refusals.ELEMENT, NO_IDS_FULL, HedgeCommittee::vote);
    }

    private static void promise07NoHedges() {
        WITHOUT_HEDGES.due("vote about a tip", Refusals.STATE, c -> c.vote(11));
        WITHOUT_HEDGES.due("vote about no tip", Refusals.STATE, c -> c.vote(0));
        HedgeCommittee c = Makers.withoutHedges();
        c.addHedge(1, 0, 5);
        Check.equal("7 one hedge of one leaf", c.vote(11), 'c');
    }

    private static void promise07NotATip() {
        MIDWAY.due("vote", Refusals.STATE, new int[] {0, 1, 4}, HedgeCommittee::vote);
        FULL.due("vote", Refusals.STATE, new int[] {0, 2, 5, 8, 9, 10}, HedgeCommittee::vote);
        CHAIN.due("vote", Refusals.STATE, new int[] {0, 1, 9, 10}, HedgeCommittee::vote);
        HedgeCommittee c = Makers.chain();
        for (int id = 11; id >= 0; id--) {
            Check.equal("7 vote about tip " + id, c.vote(id), 'c');
        }
        Check.equal("7 all weights in one", c.adoptedWeight(), 24);
    }

    private static void promise07LastMotion() {
        HedgeCommittee c = Makers.mains(12);
        for (int id = 0; id < 12; id++) {
            Check.equal("7 before vote " + id, c.motionCount(), 12 - id);
            Check.equal("7 vote " + id, c.vote(id), 'c');
        }
        Check.equal("7 none is left", c.motionCount(), 0);
        Check.thrown("7 no more", Refusals.ELEMENT, () -> c.vote(11));
        Check.equal("7 all twelve in the minutes", c.minutesIn(0), 12);
    }

    private static void promise07TheOthersStay() {
        HedgeCommittee c = Makers.full();
        Check.equal("7 near the beginning", c.vote(1), 'v');
        Check.equal("7 the others stay", lines(c, 0, 5, 7, 8), "0:0*1(2:4*3(3:5*8,4:5*8)) "
                + "5:9*20(6:0*1) 7:5*7 8:5*7(9:1*2(10:2*2(11:3*2))) ");
        Check.equal("7 in the middle", c.vote(7), 'c');
        Check.equal("7 the others stay", lines(c, 0, 5, 8), "0:0*1(2:4*3(3:5*8,4:5*8)) "
                + "5:9*20(6:0*1) 8:5*7(9:1*2(10:2*2(11:3*2))) ");
        Check.equal("7 at the end", c.vote(11), 'c');
        Check.equal("7 the others stay", lines(c, 0, 5, 8),
                "0:0*1(2:4*3(3:5*8,4:5*8)) 5:9*20(6:0*1) 8:5*7(9:1*2(10:2*4)) ");
        HedgeCommittee first = Makers.mains(12);
        first.vote(0);
        Check.equal("7 the first", lines(first, 1, 11), "1:5*2 11:5*12 ");
        Check.equal("7 the second is the first", first.motionAt(0), 1);
    }

    // ---- passSeason

    private static void promise08Wrap() {
        HedgeCommittee c = Makers.fresh();
        c.addHedge(50, 0, 0);
        int[] leaves = {52, 50, 46, 50};
        for (int year = 0; year < 3; year++) {
            for (int i = 0; i < 4; i++) {
                Check.equal("8 season", c.passSeason(), (i + 1) % 4);
                Check.equal("8 leaves", c.leaves(0), leaves[i]);
                Check.equal("8 thorns", c.thorns(0), i == 3 ? year + 1 : year);
            }
        }
    }

    private static void promise08OfNothing() {
        HedgeCommittee c = Makers.fresh();
        Makers.pass(c, 3);
        Check.equal("8 spring without hedges", c.passSeason(), 0);
        Check.equal("8 no hedge has come", c.hedgeCount(), 0);
        HedgeCommittee full = Makers.full();
        String motions = Makers.line(full, 0) + Makers.line(full, 8);
        Makers.pass(full, 4);
        Check.equal("8 the motions stay", Makers.line(full, 0) + Makers.line(full, 8), motions);
    }
}
