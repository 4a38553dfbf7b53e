/** The boundaries that the section "Terms" names, sentence by sentence. */
public final class TermsBoundaryTest {
    private static final Refusals FRESH = new Refusals("fresh", Makers::fresh);
    private static final Refusals MIDWAY = new Refusals("midway", Makers::midway);
    private static final Refusals UNTYPED = new Refusals("untyped", Makers::untyped);
    private static final Refusals FULL = new Refusals("full", Makers::fullUntyped);

    private TermsBoundaryTest() {
    }

    public static void main(String[] args) {
        hedges();
        motions();
        votes();
        seasons();
        goodSets();
        programs();
        undo();
        exceptions();
        theLastOf512Calls();
        Check.finish();
    }

    // ---- the paragraphs of the section

    private static void hedges() {
        atMostSixHedges();
        leavesFrom1To99();
        thornsFrom0To9();
        tasteFrom0To9();
        hedgesCannotLeave();
    }

    private static void motions() {
        atMostTwelveMotions();
        idsAscendFromZeroAndAreNotUsedAgain();
        toneFrom0To9();
        weightAtLeast1();
        depthOfMainMotionsAndBelow();
        branchesTipsAndPaths();
    }

    private static void votes() {
        inFavourUpToADifferenceOf3();
        vetoFromADifferenceOf7();
        vetoWithAtLeastOneThorn();
        moreThanHalfOfTheLeaves();
        vetoGoesBeforeTheLeaves();
        theTipIsRemovedInEachCase();
        carriedWithAndWithoutAParent();
    }

    private static void seasons() {
        springAtFirstAndAfterWinter();
        leavesNotAbove99AndNotBelow1();
        thornsInSpringAlone();
    }

    private static void goodSets() {
        noMotionWithItsParent();
        worthIsTheSumOfTheWeights();
    }

    /** With the paragraphs of the grammar, and of the commands and the error position. */
    private static void programs() {
        bufferOfAtMostSixtyCharacters();
        programsOfOneAndOfMoreCommands();
        numbersOfOneOrTwoDigits();
        digitsAtTheirEnds();
        errorPositionAtTheEnds();
        commandsCallWithTheirNumbers();
    }

    private static void undo() {
        eachSuccessfulCallCanBeUndone();
        atMostTheEightMostRecent();
        undoSaveAndRestoreConcernTheWholeState();
        undoSaveAndRestoreConcernTheNextId();
        undoSaveAndRestoreLeaveTheRest();
    }

    private static void exceptions() {
        aChangeThatThrowsChangesNothing();
        aQueryThatThrowsChangesNothing();
        aRunThatThrowsEmptiesTheBuffer();
        exceptionListedFirst();
        divisionsAreRoundedDown();
    }

    private static HedgeCommittee withHedge(int leaves, int thorns, int taste) {
        HedgeCommittee c = Makers.fresh();
        c.addHedge(leaves, thorns, taste);
        return c;
    }

    private static char voteOnTone(HedgeCommittee c, int tone) {
        return c.vote(c.propose(tone, 1));
    }

    // ---- hedges

    /** "There are at most 6 hedges with the indices 0 to h - 1." */
    private static void atMostSixHedges() {
        HedgeCommittee c = Makers.fresh();
        Check.thrown("hedge 0 of none", Refusals.INDEX, () -> c.leaves(0));
        for (int i = 0; i < 6; i++) {
            Check.equal("index of a hedge", c.addHedge(10 + i, i, i), i);
            Check.equal("leaves of the last hedge", c.leaves(i), 10 + i);
            int next = i + 1;
            Check.thrown("hedge behind the last", Refusals.INDEX, () -> c.leaves(next));
        }
        FULL.due("a seventh hedge", Refusals.STATE, full -> full.addHedge(1, 0, 0));
        FULL.dueOfRun("hedge 1 0 0", Refusals.UNSUPPORTED, 0);
    }

    /** "A hedge has from 1 to 99 leaves": whatever the seasons do. */
    private static void leavesFrom1To99() {
        HedgeCommittee c = withHedge(99, 0, 0);
        c.addHedge(1, 0, 0);
        int most = 0;
        int least = 100;
        for (int i = 0; i < 100; i++) {
            c.passSeason();
            most = Math.max(most, c.leaves(0));
            least = Math.min(least, c.leaves(1));
        }
        Check.equal("most leaves", most, 99);
        Check.equal("least leaves", least, 1);
    }

    /** "from 0 to 9 thorns": whatever the springs and the votes do. */
    private static void thornsFrom0To9() {
        HedgeCommittee c = withHedge(50, 7, 0);
        int[] inSprings = {8, 9, 9, 9};
        for (int thorns : inSprings) {
            Makers.pass(c, 4);
            Check.equal("thorns in spring", c.thorns(0), thorns);
        }
        for (int thorns = 8; thorns >= 0; thorns--) {
            Check.equal("veto", voteOnTone(c, 9), 'v');
            Check.equal("thorns after a veto", c.thorns(0), thorns);
        }
        Check.equal("no thorn left", voteOnTone(c, 9), 'r');
        Check.equal("not below 0 thorns", c.thorns(0), 0);
    }

    /** "a taste from 0 to 9" */
    private static void tasteFrom0To9() {
        HedgeCommittee c = withHedge(1, 1, 0);
        c.addHedge(2, 1, 9);
        int[] inFavour = {1, 1, 1, 1, 0, 0, 2, 2, 2, 2};
        for (int tone = 0; tone < 10; tone++) {
            Check.equal("in favour of tone " + tone, c.leavesInFavour(c.propose(tone, 1)),
                    inFavour[tone]);
        }
        UNTYPED.due("a taste of -1", Refusals.ARGUMENT, u -> u.addHedge(1, 0, -1));
        UNTYPED.due("a taste of 10", Refusals.ARGUMENT, u -> u.addHedge(1, 0, 10));
    }

    /** "Hedges cannot leave." */
    private static void hedgesCannotLeave() {
        HedgeCommittee c = withHedge(1, 0, 0);
        Makers.pass(c, 3);
        Check.equal("a hedge of 1 leaf in winter", c.hedgeCount(), 1);
        voteOnTone(c, 9);
        Check.equal("a hedge that was outvoted", c.hedgeCount(), 1);
    }

    // ---- motions

    /** "There are at most 12 motions at a time." */
    private static void atMostTwelveMotions() {
        FULL.due("a 13th motion by propose", Refusals.STATE, c -> c.propose(0, 1));
        FULL.due("a 13th motion by amend", Refusals.STATE, c -> c.amend(0, 0, 1));
        FULL.due("a 13th motion by regrow", Refusals.STATE, c -> c.regrow(0));
        FULL.dueOfRun("main 0 1", Refusals.UNSUPPORTED, 0);
        FULL.dueOfRun("vote 11;amend 0 0 1;amend 0 0 1", Refusals.UNSUPPORTED, 2);
        FULL.dueOfRun("regrow 0", Refusals.UNSUPPORTED, 0);
        HedgeCommittee c = Makers.mains(11);
        Check.equal("the 12th motion", c.propose(0, 1), 11);
        c.vote(3);
        Check.equal("the 12th at a time by amend", c.amend(0, 0, 1), 12);
        c.vote(4);
        Check.equal("the 12th at a time by regrow", c.regrow(0), 13);
        Check.equal("twelve", c.motionCount(), 12);
        c.vote(5);
        Check.equal("the 12th at a time by propose", c.propose(0, 1), 14);
        Check.thrown("full again", Refusals.STATE, () -> c.propose(0, 1));
    }

    /** "ids are given in ascending order from 0 and not used again" */
    private static void idsAscendFromZeroAndAreNotUsedAgain() {
        HedgeCommittee c = withHedge(1, 0, 5);
        Check.equal("first id", c.propose(5, 1), 0);
        Check.equal("id of an amendment", c.amend(0, 5, 1), 1);
        Check.equal("id of a regrown one", c.regrow(0), 2);
        c.vote(2);
        Check.equal("id after a vote about the last one", c.propose(5, 1), 3);
        c.prune(0, 0);
        Check.equal("id after pruning", c.propose(5, 1), 4);
        c.vote(4);
        c.vote(3);
        c.vote(0);
        Check.equal("none left", c.motionCount(), 0);
        Check.equal("id after the last one", c.propose(5, 1), 5);
        Makers.runInVain(c, "main 1 1;main 1 1;vote 0");
        Check.equal("id after a refused run", c.propose(5, 1), 6);
        Check.thrown("a used id", Refusals.ELEMENT, () -> c.tone(4));
    }

    /** "A motion has a tone from 0 to 9": also when it regrows, from 9 to 0. */
    private static void toneFrom0To9() {
        HedgeCommittee c = Makers.fresh();
        c.propose(0, 20);
        for (int i = 1; i < 12; i++) {
            Check.equal("tone of " + i, c.tone(c.regrow(0)), i % 10);
        }
        UNTYPED.due("a tone of -1", Refusals.ARGUMENT, u -> u.propose(-1, 1));
        UNTYPED.due("a tone of 10", Refusals.ARGUMENT, u -> u.propose(10, 1));
        UNTYPED.due("an amendment's tone of -1", Refusals.ARGUMENT, u -> u.amend(0, -1, 1));
        UNTYPED.due("an amendment's tone of 10", Refusals.ARGUMENT, u -> u.amend(0, 10, 1));
    }

    /** "a weight, which is at least 1": also when it regrows. */
    private static void weightAtLeast1() {
        HedgeCommittee c = Makers.fresh();
        c.propose(0, 20);
        int[] weights = {10, 5, 2, 1, 1, 1};
        for (int weight : weights) {
            Check.equal("half of a weight", c.weight(c.regrow(0)), weight);
        }
        UNTYPED.due("a weight of 0", Refusals.ARGUMENT, u -> u.propose(0, 0));
        UNTYPED.due("an amendment's weight of 0", Refusals.ARGUMENT, u -> u.amend(0, 0, 0));
    }

    /** "The depth of a main motion is 0, and .. of an amendment .. of its parent plus 1." */
    private static void depthOfMainMotionsAndBelow() {
        HedgeCommittee c = Makers.chain();
        for (int i = 0; i < 12; i++) {
            Check.equal("depth of " + i, c.depth(i), i);
        }
        HedgeCommittee main = Makers.mains(12);
        Check.equal("depth of the last main motion", main.depth(11), 0);
        Check.thrown("parent of a main motion", Refusals.ELEMENT, () -> main.parent(11));
    }

    /** "A motion without amendments is a tip." And branches and paths of a motion alone. */
    private static void branchesTipsAndPaths() {
        HedgeCommittee c = Makers.mains(1);
        Check.equal("a motion alone is a tip", c.isTip(0), true);
        Check.equal("a branch of one", c.branchSize(0), 1);
        Check.equal("a path of one", c.pathSize(0, 0), 1);
        c.amend(0, 5, 1);
        Check.equal("with an amendment", c.isTip(0), false);
        Check.equal("a path of two", c.pathSize(0, 1), 2);
        c.prune(0, 0);
        Check.equal("without amendments again", c.isTip(0), true);
        HedgeCommittee chain = Makers.chain();
        Check.equal("a branch of all", chain.branchSize(0), 12);
        Check.equal("a path through all", chain.pathSize(11, 0), 12);
        HedgeCommittee full = Makers.full();
        Check.equal("a branch beside others", full.branchSize(2), 3);
        Check.equal("a path up and down", full.pathSize(3, 4), 3);
        Check.equal("a path that comes to no motion twice", full.pathSize(1, 4), 4);
    }

    // ---- votes

    /** "A hedge is in favour if its difference is at most 3." */
    private static void inFavourUpToADifferenceOf3() {
        char[] due = {'r', 'c', 'c', 'c', 'c', 'c', 'c', 'c', 'r', 'r'};
        for (int tone = 0; tone < 10; tone++) {
            Check.equal("vote on tone " + tone, voteOnTone(withHedge(1, 0, 4), tone), due[tone]);
        }
    }

    /** "A hedge whose difference is at least 7 .. vetoes, and loses 1 thorn." */
    private static void vetoFromADifferenceOf7() {
        for (int tone = 0; tone < 10; tone++) {
            HedgeCommittee low = withHedge(1, 5, 0);
            Check.equal("taste 0, tone " + tone, voteOnTone(low, tone) == 'v', tone >= 7);
            Check.equal("thorns at taste 0, tone " + tone, low.thorns(0), tone >= 7 ? 4 : 5);
            HedgeCommittee high = withHedge(1, 5, 9);
            Check.equal("taste 9, tone " + tone, voteOnTone(high, tone) == 'v', tone <= 2);
            Check.equal("thorns at taste 9, tone " + tone, high.thorns(0), tone <= 2 ? 4 : 5);
        }
    }

    /** "and which has at least 1 thorn" */
    private static void vetoWithAtLeastOneThorn() {
        HedgeCommittee c = withHedge(1, 1, 0);
        Check.equal("one thorn", voteOnTone(c, 9), 'v');
        Check.equal("it is lost", c.thorns(0), 0);
        Check.equal("no thorn", voteOnTone(c, 9), 'r');
        Check.equal("none is lost", c.thorns(0), 0);
    }

    /** "carried if the leaves of the hedges in favour are more than half of the leaves" */
    private static void moreThanHalfOfTheLeaves() {
        int[][] favourAndAgainst = {{1, 1, 'r'}, {2, 1, 'c'}, {1, 2, 'r'}, {50, 50, 'r'},
            {51, 50, 'c'}, {50, 51, 'r'}, {99, 99, 'r'}, {99, 98, 'c'}, {98, 99, 'r'}};
        for (int[] leaves : favourAndAgainst) {
            HedgeCommittee c = withHedge(leaves[0], 0, 5);
            c.addHedge(leaves[1], 0, 9);
            Check.equal(leaves[0] + " against " + leaves[1], voteOnTone(c, 5), (char) leaves[2]);
        }
        HedgeCommittee six = Makers.fresh();
        for (int i = 0; i < 6; i++) {
            six.addHedge(99, 0, i < 3 ? 5 : 9);
        }
        Check.equal("297 against 297", voteOnTone(six, 5), 'r');
        Check.equal("all against", voteOnTone(six, 1), 'r');
        Check.equal("all in favour", voteOnTone(six, 7), 'c');
    }

    /** "If a hedge vetoes, the tip is vetoed; otherwise .." */
    private static void vetoGoesBeforeTheLeaves() {
        HedgeCommittee c = withHedge(99, 0, 9);
        for (int i = 0; i < 5; i++) {
            c.addHedge(1, 1, i == 4 ? 2 : 9);
        }
        Check.equal("the last hedge alone vetoes", voteOnTone(c, 9), 'v');
        Check.equal("it loses a thorn", c.thorns(5), 0);
        Check.equal("the others do not", c.thorns(4), 1);
        Check.equal("then it is carried", voteOnTone(c, 9), 'c');
        HedgeCommittee first = withHedge(1, 1, 2);
        first.addHedge(99, 0, 9);
        Check.equal("the first hedge alone vetoes", voteOnTone(first, 9), 'v');
    }

    /** "The tip is removed in each case." */
    private static void theTipIsRemovedInEachCase() {
        char[] outcomes = {'c', 'r', 'v'};
        for (int i = 0; i < 3; i++) {
            HedgeCommittee c = withHedge(1, 1, 0);
            int motion = c.propose(i * 4, 1);
            Check.equal("outcome", c.vote(motion), outcomes[i]);
            Check.equal("none left after " + outcomes[i], c.motionCount(), 0);
            Check.thrown("gone after " + outcomes[i], Refusals.ELEMENT, () -> c.tone(motion));
        }
    }

    /** "If it is carried and has a parent, ..; if it is carried and is a main motion, .." */
    private static void carriedWithAndWithoutAParent() {
        HedgeCommittee c = Makers.chainOf(2);
        Check.equal("with a parent", c.vote(1), 'c');
        Check.equal("weight of the parent", c.weight(0), 4);
        Check.equal("no minutes", c.minutesIn(0), 0);
        Makers.pass(c, 3);
        Check.equal("without a parent", c.vote(0), 'c');
        Check.equal("minutes of winter", c.minutesIn(3), 1);
        Check.equal("no minutes of spring", c.minutesIn(0), 0);
        Check.equal("adopted", c.adoptedWeight(), 4);
        c.passSeason();
        voteOnTone(c, 5);
        Check.equal("minutes of the spring after winter", c.minutesIn(0), 1);
        Check.equal("minutes of winter stay", c.minutesIn(3), 1);
    }

    // ---- seasons

    /** "it is spring at first, and spring follows winter" */
    private static void springAtFirstAndAfterWinter() {
        HedgeCommittee c = Makers.fresh();
        int[] seasons = {0, 1, 2, 3, 0, 1};
        for (int i = 0; i + 1 < seasons.length; i++) {
            Check.equal("season", c.season(), seasons[i]);
            Check.equal("next season", c.passSeason(), seasons[i + 1]);
        }
        Check.equal("no first spring of thorns and leaves", withHedge(9, 3, 0).thorns(0), 3);
    }

    private static void leavesAfter(int seasons, int[][] beforeAndAfter) {
        for (int[] leaves : beforeAndAfter) {
            HedgeCommittee c = Makers.fresh();
            Makers.pass(c, seasons - 1);
            c.addHedge(leaves[0], 0, 0);
            c.passSeason();
            Check.equal(leaves[0] + " leaves when season " + seasons + " begins", c.leaves(0),
                    leaves[1]);
        }
    }

    /** "4 more in spring, 2 more in summer, 2 fewer .., but not above 99 and not below 1" */
    private static void leavesNotAbove99AndNotBelow1() {
        leavesAfter(1, new int[][] {{1, 3}, {96, 98}, {97, 99}, {98, 99}, {99, 99}});
        leavesAfter(2, new int[][] {{99, 97}, {4, 2}, {3, 1}, {2, 1}, {1, 1}});
        leavesAfter(3, new int[][] {{99, 95}, {6, 2}, {5, 1}, {4, 1}, {2, 1}, {1, 1}});
        leavesAfter(4, new int[][] {{1, 5}, {94, 98}, {95, 99}, {96, 99}, {98, 99}, {99, 99}});
        HedgeCommittee full = Makers.full();
        full.passSeason();
        int[] due = {99, 3, 52, 52, 22, 22};
        for (int hedge = 0; hedge < 6; hedge++) {
            Check.equal("summer of the full committee", full.leaves(hedge), due[hedge]);
        }
        Check.equal("a season without hedges", Makers.fresh().passSeason(), 1);
    }

    /** "in spring, each hedge with fewer than 9 thorns gets 1 thorn more" */
    private static void thornsInSpringAlone() {
        int[][] beforeAndAfter = {{0, 1}, {7, 8}, {8, 9}, {9, 9}};
        for (int[] thorns : beforeAndAfter) {
            HedgeCommittee c = withHedge(50, thorns[0], 0);
            for (int season = 1; season < 4; season++) {
                c.passSeason();
                Check.equal("thorns in season " + season, c.thorns(0), thorns[0]);
            }
            c.passSeason();
            Check.equal("thorns of " + thorns[0] + " in spring", c.thorns(0), thorns[1]);
        }
        HedgeCommittee full = Makers.full();
        Makers.pass(full, 4);
        int[] due = {9, 1, 2, 2, 1, 9};
        for (int hedge = 0; hedge < 6; hedge++) {
            Check.equal("spring of the full committee", full.thorns(hedge), due[hedge]);
        }
    }

    // ---- good sets

    /** "A set of motions is good if it contains no motion together with its parent." */
    private static void noMotionWithItsParent() {
        Check.equal("the empty set", Makers.fresh().goodSets(), 1);
        Check.equal("one motion or none", Makers.chainOf(1).goodSets(), 2);
        Check.equal("not with the parent", Makers.chainOf(2).goodSets(), 3);
        Check.equal("with the parent's parent", Makers.chainOf(3).goodSets(), 5);
        Check.equal("chain of twelve", Makers.chain().goodSets(), 377);
        Check.equal("all with one parent", Makers.star().goodSets(), 2049);
        Check.equal("all together", Makers.mains(12).goodSets(), 4096);
    }

    /** "The worth of a set is the sum of the weights of its motions." */
    private static void worthIsTheSumOfTheWeights() {
        int[] worths = {0, 1, 3, 6, 10};
        for (int motions = 1; motions < worths.length; motions++) {
            bestIs("all together", Makers.mains(motions), worths[motions]);
        }
        bestIs("the empty set", Makers.fresh(), 0);
        bestIs("one", Makers.chainOf(1), 2);
        bestIs("one of two", Makers.chainOf(2), 2);
        bestIs("both ends of three", Makers.chainOf(3), 4);
    }

    private static void bestIs(String what, HedgeCommittee c, int due) {
        Check.equal("worth of " + what, c.bestWorth(), due);
        Check.equal("worth of " + what + " by sets", c.bestWorthBySets(), due);
    }

    // ---- programs

    /** "The text buffer holds at most 60 characters." */
    private static void bufferOfAtMostSixtyCharacters() {
        HedgeCommittee c = Makers.fullUntyped();
        for (int length = 1; length <= 60; length++) {
            Check.equal("length", c.append(Makers.SIXTY.charAt(length - 1)), length);
        }
        Check.thrown("the 61st", Refusals.STATE, () -> c.append(';'));
        Check.equal("sixty characters are run", c.run(), 8);
        new Refusals("full buffer", Makers::full).due("the 61st", Refusals.STATE,
                full -> full.append(';'));
    }

    private static void runs(String text, int commands) {
        HedgeCommittee c = Makers.untyped();
        Check.equal("run of " + text, Check.outcome(() -> Makers.run(c, text)), commands);
    }

    /** "program = command { ";" command }" */
    private static void programsOfOneAndOfMoreCommands() {
        runs("season", 1);
        runs("season;season", 2);
        runs("season;season;season;season;season;season;season;season", 8);
        FRESH.dueOfRun("", Refusals.ARGUMENT, 0);
        FRESH.dueOfRun(";", Refusals.ARGUMENT, 0);
        FRESH.dueOfRun("season;", Refusals.ARGUMENT, 7);
        FRESH.dueOfRun(";season", Refusals.ARGUMENT, 0);
        FRESH.dueOfRun("season;;season", Refusals.ARGUMENT, 7);
        FRESH.dueOfRun("season season", Refusals.ARGUMENT, 6);
    }

    /** "number = digit [ digit ]" */
    private static void numbersOfOneOrTwoDigits() {
        runs("vote 5", 1);
        runs("vote 05", 1);
        runs("regrow 00", 1);
        runs("main 0 09", 1);
        runs("hedge 99 0 0;hedge 01 0 0", 2);
        UNTYPED.dueOfRun("vote 005", Refusals.ARGUMENT, 7);
        UNTYPED.dueOfRun("vote ", Refusals.ARGUMENT, 5);
        UNTYPED.dueOfRun("hedge 100 0 0", Refusals.ARGUMENT, 8);
        UNTYPED.dueOfRun("main 0 100", Refusals.ARGUMENT, 9);
        UNTYPED.dueOfRun("amend 000 0 1", Refusals.ARGUMENT, 8);
        UNTYPED.dueOfRun("amend 0 0 020", Refusals.ARGUMENT, 12);
        UNTYPED.dueOfRun("prune 000 0", Refusals.ARGUMENT, 8);
        UNTYPED.dueOfRun("regrow 000", Refusals.ARGUMENT, 9);
        UNTYPED.dueOfRun("vote -1", Refusals.ARGUMENT, 5);
    }

    /** A digit is a single one from '0' to '9', and no character beside them. */
    private static void digitsAtTheirEnds() {
        runs("hedge 1 0 9", 1);
        runs("hedge 1 9 0", 1);
        runs("main 9 1;main 0 1", 2);
        runs("prune 0 9", 1);
        runs("prune 0 0", 1);
        char[] beside = {'/', ':', ' ', 'a', (char) 0x665, (char) 0xff11};
        for (char sign : beside) {
            UNTYPED.dueOfRun("hedge " + sign + " 0 0", Refusals.ARGUMENT, 6);
            UNTYPED.dueOfRun("hedge 1" + sign + sign + "0 0", Refusals.ARGUMENT,
                    sign == ' ' ? 8 : 7);
            UNTYPED.dueOfRun("prune 0 " + sign, Refusals.ARGUMENT, 8);
            UNTYPED.dueOfRun("vote 0" + sign, Refusals.ARGUMENT, 6);
        }
        UNTYPED.dueOfRun("hedge 1 00 0", Refusals.ARGUMENT, 9);
        UNTYPED.dueOfRun("hedge 1 0 00", Refusals.ARGUMENT, 11);
        UNTYPED.dueOfRun("main 00 1", Refusals.ARGUMENT, 6);
        UNTYPED.dueOfRun("amend 0 00 1", Refusals.ARGUMENT, 9);
        UNTYPED.dueOfRun("prune 0 00", Refusals.ARGUMENT, 9);
    }

    /** "or the length of the text if the text is a proper prefix of a program" */
    private static void errorPositionAtTheEnds() {
        for (String word : new String[] {"hedge ", "main ", "amend ", "prune ", "regrow ", "vote ",
            "season"}) {
            for (int length = 0; length < word.length(); length++) {
                String part = word.substring(0, length);
                FRESH.dueOfRun(part, Refusals.ARGUMENT, length);
                FRESH.dueOfRun(part + "#", Refusals.ARGUMENT, length);
            }
            FRESH.dueOfRun(word.toUpperCase(), Refusals.ARGUMENT, 0);
        }
        String most = Makers.SIXTY.substring(0, 53);
        FULL.dueOfRun(most + "mvote 1", Refusals.ARGUMENT, 54);
        FULL.dueOfRun(most + "vote 1;", Refusals.ARGUMENT, 60);
        FULL.dueOfRun(most + "season;", Refusals.ARGUMENT, 60);
        FULL.dueOfRun(most + "seasons", Refusals.ARGUMENT, 59);
        FULL.dueOfRun(most + "regrow ", Refusals.ARGUMENT, 60);
        FULL.dueOfRun(most + "hedge 1", Refusals.ARGUMENT, 60);
        FULL.dueOfRun(most + "vote 1x", Refusals.ARGUMENT, 59);
    }

    /** "The commands call addHedge, .. and passSeason": with their ranges too. */
    private static void commandsCallWithTheirNumbers() {
        FULL.dueOfRun("hedge 0 0 0", Refusals.UNSUPPORTED, 0);
        UNTYPED.dueOfRun("hedge 0 0 0", Refusals.UNSUPPORTED, 0);
        UNTYPED.dueOfRun("hedge 00 9 9", Refusals.UNSUPPORTED, 0);
        UNTYPED.dueOfRun("main 0 0", Refusals.UNSUPPORTED, 0);
        UNTYPED.dueOfRun("main 9 21", Refusals.UNSUPPORTED, 0);
        UNTYPED.dueOfRun("main 9 99", Refusals.UNSUPPORTED, 0);
        UNTYPED.dueOfRun("amend 0 0 0", Refusals.UNSUPPORTED, 0);
        UNTYPED.dueOfRun("amend 0 9 21", Refusals.UNSUPPORTED, 0);
        UNTYPED.dueOfRun("amend 2 0 1", Refusals.UNSUPPORTED, 0);
        UNTYPED.dueOfRun("prune 2 0", Refusals.UNSUPPORTED, 0);
        UNTYPED.dueOfRun("regrow 9", Refusals.UNSUPPORTED, 0);
        UNTYPED.dueOfRun("vote 99", Refusals.UNSUPPORTED, 0);
        UNTYPED.dueOfRun("vote 0", Refusals.UNSUPPORTED, 0);
        runs("main 0 1;main 9 20;amend 0 0 1;amend 10 9 20", 4);
        HedgeCommittee c = Makers.fresh();
        Makers.run(c, "hedge 99 9 0;hedge 1 0 9;main 9 20;amend 0 0 1;season");
        Check.equal("most leaves", c.leaves(0), 99);
        Check.equal("least leaves, and summer", c.leaves(1), 3);
        Check.equal("most thorns", c.thorns(0), 9);
        Check.equal("least thorns", c.thorns(1), 0);
        Check.equal("tastes", c.leavesInFavour(1), 99);
        Check.equal("tones and weights", Makers.line(c, 0), "0:9*20(1:0*1)");
    }

    // ---- undo

    private static void canBeUndone(String what, int answer, Refusals.Use change) {
        HedgeCommittee c = Makers.fresh();
        Makers.type(c, "prune 0 0");
        c.propose(5, 1);
        c.undo();
        Check.thrown("no call to undo before " + what, Refusals.STATE, c::undo);
        c.propose(5, 1);
        Check.equal("answer of " + what, change.on(c), answer);
        Check.equal("undo of " + what, c.undo(), 1);
        Check.equal("what " + what + " was before", Makers.line(c, 0), "0:5*1");
        Check.equal("undo before " + what, c.undo(), 0);
        Check.equal("no motion before " + what, c.motionCount(), 0);
    }

    /** "Each successful call of them can be undone, also if nothing is different after it" */
    private static void eachSuccessfulCallCanBeUndone() {
        canBeUndone("addHedge", 0, c -> c.addHedge(1, 0, 0));
        canBeUndone("propose", 1, c -> c.propose(0, 1));
        canBeUndone("amend", 1, c -> c.amend(0, 0, 1));
        canBeUndone("prune of nothing", 0, c -> c.prune(0, 0));
        canBeUndone("regrow", 1, c -> c.regrow(0));
        canBeUndone("passSeason without hedges", 1, c -> c.passSeason());
        canBeUndone("run of a prune of nothing", 1, c -> c.run());
        HedgeCommittee c = Makers.mains(1);
        c.vote(0);
        Check.equal("undo of vote", c.undo(), 2);
        Check.equal("the motion is back", c.weight(0), 1);
        Check.thrown("no vote any more", Refusals.ARITHMETIC, c::carriedShare);
    }

    /** "at most the 8 most recent ones, the most recent one first" */
    private static void atMostTheEightMostRecent() {
        for (int calls = 1; calls <= 20; calls++) {
            HedgeCommittee c = Makers.fresh();
            Makers.pass(c, calls);
            int most = Math.min(8, calls);
            for (int left = most - 1; left >= 0; left--) {
                Check.equal("left of " + calls, c.undo(), left);
                Check.equal("season of " + calls, c.season(), (calls - most + left) % 4);
            }
            Check.thrown("no more of " + calls, Refusals.STATE, c::undo);
        }
        HedgeCommittee c = Makers.fresh();
        Makers.pass(c, 9);
        c.undo();
        Makers.pass(c, 1);
        Check.equal("eight again after one that was undone", c.undo(), 7);
        Makers.pass(c, 2);
        Check.equal("and not nine", c.undo(), 7);
    }

    /** "Undo, save and restore concern the whole state" */
    private static void undoSaveAndRestoreConcernTheWholeState() {
        concernsAll("addHedge", c -> c.addHedge(9, 9, 9));
        concernsAll("propose", c -> c.propose(1, 1));
        concernsAll("amend", c -> c.amend(0, 1, 1));
        concernsAll("prune", c -> c.prune(0, 0));
        concernsAll("regrow", c -> c.regrow(0));
        concernsAll("vote", c -> c.vote(3));
        concernsAll("passSeason", c -> c.passSeason());
        concernsAll("run", c -> Makers.run(c, "prune 0 0;vote 0"));
        concernsAll("a rejection", c -> Makers.run(c, "hedge 99 0 0;main 9 8;vote 9"));
        concernsAll("a veto", c -> Makers.run(c, "hedge 9 9 0;main 9 8;vote 9"));
        HedgeCommittee c = Makers.fresh();
        c.propose(5, 1);
        c.addHedge(9, 1, 5);
        c.save();
        c.undo();
        c.addHedge(9, 1, 0);
        c.propose(9, 1);
        Check.equal("taste of another hedge", c.leavesInFavour(0), 0);
        c.vote(1);
        c.restore();
        Check.equal("taste that was saved", c.leavesInFavour(0), 9);
        Check.equal("thorns that were saved", c.thorns(0), 1);
    }

    private static void concernsAll(String what, Refusals.Use change) {
        HedgeCommittee c = Makers.untyped();
        String before = Whole.answers(c);
        change.on(c);
        Check.equal(what + " changes something", Whole.answers(c).equals(before), false);
        c.undo();
        Check.equal("undo after " + what, Whole.answers(c), before);
        c.save();
        Check.equal("save before " + what, Whole.answers(c), before);
        change.on(c);
        c.passSeason();
        c.restore();
        Check.equal("restore after " + what, Whole.answers(c), before);
    }

    /** "including the next id" */
    private static void undoSaveAndRestoreConcernTheNextId() {
        HedgeCommittee c = Makers.fresh();
        c.propose(5, 1);
        c.undo();
        Check.equal("next id after undo", c.propose(5, 1), 0);
        c.save();
        c.propose(5, 1);
        c.restore();
        Check.equal("next id after restore", c.propose(5, 1), 1);
        c.save();
        Check.equal("next id after save", c.propose(5, 1), 2);
        new Refusals("saved", TermsBoundaryTest::saved).due("undo after restore", Refusals.STATE,
                HedgeCommittee::undo);
    }

    private static HedgeCommittee saved() {
        HedgeCommittee c = Makers.midway();
        c.save();
        c.vote(3);
        c.restore();
        return c;
    }

    private static void leavesTheRest(String what, Refusals.Use use) {
        Whole before = Whole.of(Makers::midway);
        Whole after = Whole.of(() -> {
            HedgeCommittee c = Makers.midway();
            use.on(c);
            return c;
        });
        Check.equal(what + " leaves the output line", after.output, before.output);
        Check.equal(what + " leaves the error position", after.errorPosition, before.errorPosition);
        Check.equal(what + " leaves the failed command", after.failedCommand, before.failedCommand);
        HedgeCommittee c = Makers.midway();
        use.on(c);
        Check.equal(what + " leaves the buffer", c.append(';'), 16);
        Makers.runInVain(c, "x");
        Check.equal(what + " leaves the text", c.errorPosition(), 16);
    }

    /** "except the text buffer, the error position, the failed command and the output line" */
    private static void undoSaveAndRestoreLeaveTheRest() {
        leavesTheRest("undo", HedgeCommittee::undo);
        leavesTheRest("undo of eight", c -> {
            for (int i = 0; i < 8; i++) {
                c.undo();
            }
            return 0;
        });
        leavesTheRest("save", c -> {
            c.save();
            return 0;
        });
        leavesTheRest("restore", c -> {
            c.restore();
            return 0;
        });
    }

    // ---- exceptions and the rest

    /** "If a call throws an exception, nothing changes" */
    private static void aChangeThatThrowsChangesNothing() {
        MIDWAY.due("addHedge", Refusals.ARGUMENT, c -> c.addHedge(100, 0, 0));
        MIDWAY.due("propose", Refusals.ARGUMENT, c -> c.propose(0, 21));
        MIDWAY.due("amend", Refusals.ARGUMENT, c -> c.amend(0, 10, 1));
        MIDWAY.due("amend of none", Refusals.ELEMENT, c -> c.amend(9, 0, 1));
        MIDWAY.due("prune", Refusals.ARGUMENT, c -> c.prune(0, 10));
        MIDWAY.due("prune of none", Refusals.ELEMENT, c -> c.prune(9, 0));
        MIDWAY.due("regrow of none", Refusals.ELEMENT, c -> c.regrow(9));
        MIDWAY.due("vote", Refusals.STATE, c -> c.vote(0));
        MIDWAY.due("vote about none", Refusals.ELEMENT, c -> c.vote(9));
        Refusals full = new Refusals("full and typed", Makers::full);
        full.due("addHedge", Refusals.STATE, c -> c.addHedge(1, 0, 0));
        full.due("propose", Refusals.STATE, c -> c.propose(0, 1));
        full.due("amend", Refusals.STATE, c -> c.amend(0, 0, 1));
        full.due("regrow", Refusals.STATE, c -> c.regrow(0));
        full.due("append", Refusals.STATE, c -> c.append('x'));
        FRESH.due("undo", Refusals.STATE, HedgeCommittee::undo);
        FRESH.due("restore", Refusals.STATE, c -> {
            c.restore();
            return 0;
        });
    }

    /** "If a call throws an exception, nothing changes" */
    private static void aQueryThatThrowsChangesNothing() {
        MIDWAY.due("leaves", Refusals.INDEX, c -> c.leaves(3));
        MIDWAY.due("thorns", Refusals.INDEX, c -> c.thorns(3));
        MIDWAY.due("hedgeAtRank", Refusals.ELEMENT, c -> c.hedgeAtRank(3));
        MIDWAY.due("leavesInFavour", Refusals.ELEMENT, c -> c.leavesInFavour(9));
        MIDWAY.due("wouldVeto of none", Refusals.INDEX, c -> c.wouldVeto(3, 0));
        MIDWAY.due("wouldVeto", Refusals.ELEMENT, c -> c.wouldVeto(0, 9));
        MIDWAY.due("motionAt", Refusals.INDEX, c -> c.motionAt(5));
        MIDWAY.due("tone", Refusals.ELEMENT, c -> c.tone(9));
        MIDWAY.due("weight", Refusals.ELEMENT, c -> c.weight(9));
        MIDWAY.due("parent", Refusals.ELEMENT, c -> c.parent(0));
        MIDWAY.due("depth", Refusals.ELEMENT, c -> c.depth(9));
        MIDWAY.due("isTip", Refusals.ELEMENT, c -> c.isTip(9));
        MIDWAY.due("branchSize", Refusals.ELEMENT, c -> c.branchSize(9));
        MIDWAY.due("lastTip", Refusals.ELEMENT, c -> c.lastTip(9));
        MIDWAY.due("motionAtRank", Refusals.INDEX, c -> c.motionAtRank(5));
        MIDWAY.due("commonMotion", Refusals.UNSUPPORTED, c -> c.commonMotion(0, 4));
        MIDWAY.due("commonMotionByRows", Refusals.UNSUPPORTED, c -> c.commonMotionByRows(0, 4));
        MIDWAY.due("pathSize", Refusals.UNSUPPORTED, c -> c.pathSize(0, 4));
        MIDWAY.due("longestPath", Refusals.ELEMENT, c -> c.longestPath(9));
        MIDWAY.due("longestPathBySweeps", Refusals.ELEMENT, c -> c.longestPathBySweeps(9));
        MIDWAY.due("minutesIn", Refusals.ARGUMENT, c -> c.minutesIn(4));
        FRESH.due("meanLeaves", Refusals.ARITHMETIC, HedgeCommittee::meanLeaves);
        FRESH.due("carriedShare", Refusals.ARITHMETIC, HedgeCommittee::carriedShare);
        FRESH.due("errorPosition", Refusals.ELEMENT, HedgeCommittee::errorPosition);
        FRESH.due("failedCommand", Refusals.ELEMENT, HedgeCommittee::failedCommand);
        MIDWAY.due("writeBranch", Refusals.ELEMENT, c -> c.writeBranch(9));
        MIDWAY.due("outputAt", Refusals.INDEX, c -> c.outputAt(99));
    }

    /** "except that run empties the text buffer and stores the error position or .. command" */
    private static void aRunThatThrowsEmptiesTheBuffer() {
        FRESH.dueOfRun("seas", Refusals.ARGUMENT, 4);
        FRESH.dueOfRun("season;main 1 1;vote 0", Refusals.UNSUPPORTED, 2);
        UNTYPED.dueOfRun("season;vote 3 ", Refusals.ARGUMENT, 13);
        UNTYPED.dueOfRun("season;vote 3;vote 3", Refusals.UNSUPPORTED, 2);
        FULL.dueOfRun("season;vote 11;main 1 1;", Refusals.ARGUMENT, 24);
        FULL.dueOfRun("season;vote 11;main 1 1;regrow 0", Refusals.UNSUPPORTED, 3);
    }

    /** "If several conditions of a method apply, the exception that is listed first is thrown." */
    private static void exceptionListedFirst() {
        FULL.due("addHedge out of range", Refusals.ARGUMENT, c -> c.addHedge(0, 0, 0));
        FULL.due("propose out of range", Refusals.ARGUMENT, c -> c.propose(0, 21));
        FULL.due("amend of none, out of range", Refusals.ELEMENT, c -> c.amend(12, 10, 0));
        FULL.due("amend of none", Refusals.ELEMENT, c -> c.amend(12, 0, 1));
        FULL.due("amend out of range", Refusals.ARGUMENT, c -> c.amend(0, 10, 1));
        UNTYPED.due("amend of none, out of range", Refusals.ELEMENT, c -> c.amend(2, 10, 1));
        UNTYPED.due("prune of none, out of range", Refusals.ELEMENT, c -> c.prune(2, 10));
        FULL.due("regrow of none", Refusals.ELEMENT, c -> c.regrow(12));
        FRESH.due("vote about none", Refusals.ELEMENT, c -> c.vote(0));
        UNTYPED.due("wouldVeto of none about none", Refusals.INDEX, c -> c.wouldVeto(3, 2));
        UNTYPED.due("common motion of none", Refusals.ELEMENT, c -> c.commonMotion(0, 9));
        UNTYPED.dueOfRun("vote 99;x", Refusals.ARGUMENT, 8);
        UNTYPED.dueOfRun("vote 3;vote 3;vote 0;vote", Refusals.ARGUMENT, 25);
    }

    /** "All divisions of integers are rounded down." */
    private static void divisionsAreRoundedDown() {
        int[][] weights = {{20, 10}, {19, 9}, {5, 2}, {4, 2}, {3, 1}, {2, 1}, {1, 1}};
        for (int[] pair : weights) {
            HedgeCommittee c = Makers.fresh();
            c.propose(5, pair[0]);
            Check.equal("half of " + pair[0], c.weight(c.regrow(0)), pair[1]);
        }
    }

    /** "An object is used for at most 512 calls": the last of them is answered like the others. */
    private static void theLastOf512Calls() {
        HedgeCommittee c = Makers.fresh();
        Makers.pass(c, 511);
        Check.equal("the 512th season", c.passSeason(), 0);
        HedgeCommittee voted = withHedge(50, 0, 5);
        for (int i = 0; i < 255; i++) {
            Check.equal("id", voted.propose(5, 20), i);
            Check.equal("carried", voted.vote(i), 'c');
        }
        Check.equal("the 512th call", voted.adoptedWeight(), 255 * 20);
    }
}
