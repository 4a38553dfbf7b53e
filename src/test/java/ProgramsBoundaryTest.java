/** The boundaries of the promises 41 to 49: programs, output, undo and snapshot. */
public final class ProgramsBoundaryTest {
    private static final Refusals FRESH = new Refusals("fresh", Makers::fresh);
    private static final Refusals MIDWAY = new Refusals("midway", Makers::midway);
    private static final Refusals UNTYPED = new Refusals("untyped", Makers::untyped);
    private static final Refusals FULL = new Refusals("full", Makers::full);
    private static final Refusals FULL_UNTYPED = new Refusals("full untyped", Makers::fullUntyped);
    private static final String EIGHT_SEASONS =
            "season;season;season;season;season;season;season;season";

    private ProgramsBoundaryTest() {
    }

    public static void main(String[] args) {
        promise41SixtyCharacters();
        promise41AnyCharacter();
        promise42EmptyAndFullBuffer();
        promise42EmptyAfterwardsInEveryCase();
        promise42NumberOfCommands();
        promise42NoneHasAnEffect();
        promise42RunIsOneCall();
        promise43NoneStored();
        promise43FirstAndLastPosition();
        promise43StoredLast();
        promise44NoneStored();
        promise44FirstAndLastCommand();
        promise44StoredLast();
        promise45NoSuchMotion();
        promise45LinesOfOneAndOfAll();
        promise46EmptyAtFirst();
        promise46FirstAndLastCharacter();
        promise47NoCall();
        promise47EightCalls();
        promise47NinthCall();
        promise47BackToTheBeginning();
        promise47AfterRefusedCalls();
        promise48SaveOfNothingAndOfAll();
        promise48NoChangingCall();
        promise49NoneSaved();
        promise49NoUndoAfterwards();
        promise49StaysSaved();
        promise49EachHedgeAsItWas();
        Check.finish();
    }

    private static Object restore(HedgeCommittee c) {
        c.restore();
        return 0;
    }

    private static Object save(HedgeCommittee c) {
        c.save();
        return 0;
    }

    // ---- append

    private static void promise41SixtyCharacters() {
        HedgeCommittee c = Makers.fresh();
        for (int length = 1; length <= 60; length++) {
            Check.equal("41 length", c.append('x'), length);
        }
        for (int i = 0; i < 3; i++) {
            Check.thrown("41 the 61st", Refusals.STATE, () -> c.append('x'));
        }
        FULL.due("41 the 61st", Refusals.STATE, f -> f.append(';'));
        FULL.due("41 the 61st", Refusals.STATE, f -> f.append((char) 0));
        FULL.due("41 the 61st", Refusals.STATE, f -> f.append('\uffff'));
        Check.equal("41 what is full is run as it is", Makers.full().run(), 8);
        MIDWAY.leavesState("41 append", m -> m.append('x'));
    }

    private static void promise41AnyCharacter() {
        char[] signs = {0, 1, '\n', ' ', 127, 128, 233, 255, 256, 0xd800, 0xfffe, 0xffff};
        HedgeCommittee c = Makers.fresh();
        for (int i = 0; i < signs.length; i++) {
            Check.equal("41 any character", c.append(signs[i]), i + 1);
        }
        for (char sign : signs) {
            UNTYPED.dueOfRun("" + sign, Refusals.ARGUMENT, 0);
            UNTYPED.dueOfRun("season" + sign, Refusals.ARGUMENT, 6);
        }
        UNTYPED.dueOfRun("" + (char) ('s' + 256) + "eason", Refusals.ARGUMENT, 0);
        UNTYPED.dueOfRun("vote " + (char) ('0' + 256), Refusals.ARGUMENT, 5);
    }

    // ---- run

    private static void promise42EmptyAndFullBuffer() {
        FRESH.dueOfRun("", Refusals.ARGUMENT, 0);
        UNTYPED.dueOfRun("", Refusals.ARGUMENT, 0);
        HedgeCommittee c = Makers.fullUntyped();
        Check.equal("42 sixty characters", Makers.run(c, Makers.SIXTY), 8);
        Check.equal("42 the last of them counts", Check.outcome(() -> c.tone(7)),
                Refusals.ELEMENT.getName());
        Check.equal("42 winter after three seasons", c.season(), 3);
        FULL_UNTYPED.dueOfRun(Makers.SIXTY.substring(0, 59) + "5", Refusals.UNSUPPORTED, 7);
        FULL_UNTYPED.dueOfRun(Makers.SIXTY.substring(0, 59) + "x", Refusals.ARGUMENT, 59);
        FULL_UNTYPED.dueOfRun(Makers.SIXTY.substring(0, 53) + "season;", Refusals.ARGUMENT, 60);
    }

    private static void emptyAfter(String what, String text) {
        HedgeCommittee c = Makers.fullUntyped();
        Makers.runInVain(c, text);
        Check.equal("42 a full buffer of space after " + what, Makers.run(c, Makers.SIXTY), 8);
        for (int length = 1; length <= 60; length++) {
            Check.equal("42 empty after " + what, c.append(';'), length);
        }
    }

    private static void promise42EmptyAfterwardsInEveryCase() {
        emptyAfter("a run of all", "prune 11 0");
        emptyAfter("no program", "seasons");
        emptyAfter("a failed command", "season;main 0 1");
        emptyAfter("a run of nothing", "");
        emptyAfter("a run of sixty that is none", Makers.SIXTY.substring(0, 59) + "x");
    }

    private static void promise42NumberOfCommands() {
        HedgeCommittee c = Makers.fresh();
        Check.equal("42 one command", Makers.run(c, "season"), 1);
        Check.equal("42 eight commands", Makers.run(c, EIGHT_SEASONS), 8);
        Check.equal("42 nine seasons have passed", c.season(), 1);
        Check.equal("42 one again", Makers.run(c, "season"), 1);
    }

    private static void promise42NoneHasAnEffect() {
        UNTYPED.dueOfRun("hedge 1 1 1;main 1 1;amend 0 1 1;regrow 0;season;vote 0",
                Refusals.UNSUPPORTED, 5);
        UNTYPED.dueOfRun("prune 0 0;vote 5;vote 4;vote 0;vote 0", Refusals.UNSUPPORTED, 4);
        UNTYPED.dueOfRun("season;season;season;season;season;season;season;vote",
                Refusals.ARGUMENT, 53);
        FULL_UNTYPED.dueOfRun("season;vote 11;vote 1;vote 6;hedge 1 0 0", Refusals.UNSUPPORTED, 4);
        FULL_UNTYPED.dueOfRun("vote 11;main 0 1;main 0 1", Refusals.UNSUPPORTED, 2);
        FULL_UNTYPED.dueOfRun("vote 11;amend 0 0 1;amend 0 0 1", Refusals.UNSUPPORTED, 2);
        FULL_UNTYPED.dueOfRun("vote 11;regrow 0;regrow 0", Refusals.UNSUPPORTED, 2);
        FRESH.dueOfRun("main 0 1;vote 0", Refusals.UNSUPPORTED, 1);
        FRESH.dueOfRun("season;prune 0 0", Refusals.UNSUPPORTED, 1);
    }

    private static void promise42RunIsOneCall() {
        HedgeCommittee c = Makers.fresh();
        Makers.run(c, EIGHT_SEASONS);
        Check.equal("42 undone at once", c.undo(), 0);
        Check.thrown("42 no command alone", Refusals.STATE, c::undo);
        Makers.run(c, "season");
        Makers.pass(c, 7);
        for (int left = 7; left > 0; left--) {
            Check.equal("42 left", c.undo(), left);
        }
        Check.equal("42 the run is the eighth", c.undo(), 0);
        Check.equal("42 spring before it", c.season(), 0);
    }

    // ---- errorPosition and failedCommand

    private static void promise43NoneStored() {
        MIDWAY.changesNothing("43 errorPosition", HedgeCommittee::errorPosition);
        FRESH.due("43 errorPosition", Refusals.ELEMENT, HedgeCommittee::errorPosition);
        FULL.due("43 errorPosition", Refusals.ELEMENT, HedgeCommittee::errorPosition);
        HedgeCommittee c = Makers.fresh();
        Makers.run(c, "season");
        Makers.runInVain(c, "vote 0");
        Check.thrown("43 none of other runs", Refusals.ELEMENT, c::errorPosition);
    }

    private static void promise43FirstAndLastPosition() {
        FRESH.dueOfRun("x", Refusals.ARGUMENT, 0);
        FULL_UNTYPED.dueOfRun(Makers.SIXTY.substring(0, 59) + ";", Refusals.ARGUMENT, 60);
        FULL_UNTYPED.dueOfRun(Makers.SIXTY.substring(0, 59) + " ", Refusals.ARGUMENT, 59);
        FULL_UNTYPED.dueOfRun("x" + Makers.SIXTY.substring(1), Refusals.ARGUMENT, 0);
    }

    private static void promise43StoredLast() {
        HedgeCommittee c = Makers.midway();
        Check.equal("43 stored before", c.errorPosition(), 6);
        Makers.runInVain(c, "x");
        Check.equal("43 behind what the buffer held", c.errorPosition(), 15);
        Makers.runInVain(c, "");
        Check.equal("43 of nothing", c.errorPosition(), 0);
        Makers.runInVain(c, "vote 99");
        Check.equal("43 stays after a failed command", c.errorPosition(), 0);
        Makers.runInVain(c, "season;");
        Check.equal("43 the last one", c.errorPosition(), 7);
        Makers.run(c, "season");
        Check.equal("43 stays after a run of all", c.errorPosition(), 7);
    }

    private static void promise44NoneStored() {
        MIDWAY.changesNothing("44 failedCommand", HedgeCommittee::failedCommand);
        FRESH.due("44 failedCommand", Refusals.ELEMENT, HedgeCommittee::failedCommand);
        FULL.due("44 failedCommand", Refusals.ELEMENT, HedgeCommittee::failedCommand);
        HedgeCommittee c = Makers.fresh();
        Makers.run(c, "season");
        Makers.runInVain(c, "x");
        Check.thrown("44 none of other runs", Refusals.ELEMENT, c::failedCommand);
    }

    private static void promise44FirstAndLastCommand() {
        FRESH.dueOfRun("vote 0", Refusals.UNSUPPORTED, 0);
        FRESH.dueOfRun("vote 0;season", Refusals.UNSUPPORTED, 0);
        FRESH.dueOfRun("season;season;season;season;season;season;season;vote 0",
                Refusals.UNSUPPORTED, 7);
        FRESH.dueOfRun("vote 0;vote 0;vote 0;vote 0;vote 0;vote 0;vote 0;vote 0",
                Refusals.UNSUPPORTED, 0);
    }

    private static void promise44StoredLast() {
        HedgeCommittee c = Makers.untyped();
        Check.equal("44 stored before", c.failedCommand(), 1);
        Makers.runInVain(c, "season;season;vote 99");
        Check.equal("44 the last one", c.failedCommand(), 2);
        Makers.runInVain(c, "vote 99");
        Check.equal("44 the first command", c.failedCommand(), 0);
        Makers.runInVain(c, "season;x");
        Check.equal("44 stays after no program", c.failedCommand(), 0);
        Makers.run(c, "season;season");
        Check.equal("44 stays after a run of all", c.failedCommand(), 0);
    }

    // ---- output

    private static void promise45NoSuchMotion() {
        FRESH.due("45 writeBranch", Refusals.ELEMENT, Refusals.beyond(1, -1),
                HedgeCommittee::writeBranch);
        MIDWAY.due("45 writeBranch", Refusals.ELEMENT,
                new int[] {-1, 2, 6, 7, 8, 9, Integer.MIN_VALUE, Integer.MAX_VALUE},
                HedgeCommittee::writeBranch);
        FULL.due("45 writeBranch", Refusals.ELEMENT, Refusals.beyond(0, 11),
                HedgeCommittee::writeBranch);
    }

    private static void promise45LinesOfOneAndOfAll() {
        MIDWAY.leavesState("45 writeBranch", m -> m.writeBranch(4));
        FULL.leavesState("45 writeBranch", f -> f.writeBranch(0));
        Check.equal("45 one", Makers.line(Makers.mains(1), 0), "0:5*1");
        Check.equal("45 the first of the full", Makers.line(Makers.full(), 0),
                "0:0*1(1:9*20,2:4*3(3:5*8,4:5*8))");
        Check.equal("45 the last of the full", Makers.line(Makers.full(), 11), "11:3*2");
        Check.equal("45 two digits", Makers.line(Makers.full(), 8), "8:5*7(9:1*2(10:2*2(11:3*2)))");
        Check.equal("45 a chain", Makers.line(Makers.chain(), 0), "0:5*2(1:5*2(2:5*2(3:5*2(4:5*2("
                + "5:5*2(6:5*2(7:5*2(8:5*2(9:5*2(10:5*2(11:5*2)))))))))))");
        Check.equal("45 a star", Makers.line(Makers.star(), 0), "0:5*2(1:5*2,2:5*2,3:5*2,4:5*2,"
                + "5:5*2,6:5*2,7:5*2,8:5*2,9:5*2,10:5*2,11:5*2)");
        HedgeCommittee c = Makers.fresh();
        c.addHedge(50, 0, 5);
        for (int id = 0; id < 99; id++) {
            c.vote(c.propose(5, 1));
        }
        c.propose(9, 20);
        c.amend(99, 0, 1);
        Check.equal("45 ids of two and three digits", Makers.line(c, 99), "99:9*20(100:0*1)");
    }

    private static void promise46EmptyAtFirst() {
        FRESH.due("46 outputAt", Refusals.INDEX, Refusals.beyond(1, -1), HedgeCommittee::outputAt);
        HedgeCommittee c = Makers.fresh();
        Check.outcome(() -> c.writeBranch(0));
        Check.thrown("46 empty after a refused writing", Refusals.INDEX, () -> c.outputAt(0));
    }

    private static void promise46FirstAndLastCharacter() {
        MIDWAY.changesNothing("46 outputAt", m -> m.outputAt(19));
        FULL.changesNothing("46 outputAt", f -> f.outputAt(0));
        FULL.range("46 outputAt", Refusals.INDEX, 0, 31, HedgeCommittee::outputAt);
        MIDWAY.range("46 outputAt", Refusals.INDEX, 0, 19, HedgeCommittee::outputAt);
        HedgeCommittee c = Makers.chain();
        Check.equal("46 length of a chain", c.writeBranch(0), 84);
        Check.equal("46 first", c.outputAt(0), '0');
        Check.equal("46 last", c.outputAt(83), ')');
        Check.thrown("46 behind the last", Refusals.INDEX, () -> c.outputAt(84));
        Check.equal("46 length of a tip", c.writeBranch(11), 6);
        Check.equal("46 last of a tip", c.outputAt(5), '2');
        Check.thrown("46 nothing of the longer line", Refusals.INDEX, () -> c.outputAt(6));
        Check.thrown("46 refused", Refusals.ELEMENT, () -> c.writeBranch(12));
        Check.equal("46 stays after a refused writing", c.outputAt(0), '1');
    }

    // ---- undo

    private static void promise47NoCall() {
        FRESH.due("47 undo", Refusals.STATE, HedgeCommittee::undo);
        new Refusals("all undone", ProgramsBoundaryTest::allUndone).due("47 undo", Refusals.STATE,
                HedgeCommittee::undo);
    }

    private static HedgeCommittee allUndone() {
        HedgeCommittee c = Makers.midway();
        for (int i = 0; i < 8; i++) {
            c.undo();
        }
        return c;
    }

    private static void promise47EightCalls() {
        HedgeCommittee c = Makers.fresh();
        for (int i = 0; i < 8; i++) {
            c.propose(i, 1 + i);
        }
        for (int left = 7; left >= 0; left--) {
            Check.equal("47 left of eight", c.undo(), left);
            Check.equal("47 motions of eight", c.motionCount(), left);
        }
        Check.thrown("47 no ninth", Refusals.STATE, c::undo);
        Check.equal("47 the first id again", c.propose(0, 1), 0);
    }

    private static void promise47NinthCall() {
        HedgeCommittee c = Makers.fresh();
        for (int i = 0; i < 9; i++) {
            c.propose(i, 1 + i);
        }
        for (int left = 7; left >= 0; left--) {
            Check.equal("47 left of nine", c.undo(), left);
            Check.equal("47 motions of nine", c.motionCount(), left + 1);
        }
        Check.thrown("47 no ninth", Refusals.STATE, c::undo);
        Check.equal("47 the first call stays", c.weight(0), 1);
        Check.equal("47 the second id again", c.propose(0, 1), 1);
    }

    private static void promise47BackToTheBeginning() {
        HedgeCommittee c = Makers.fresh();
        c.passSeason();
        Check.equal("47 one call", c.undo(), 0);
        Check.equal("47 as at first", c.season(), 0);
        c.passSeason();
        c.passSeason();
        Check.equal("47 of two", c.undo(), 1);
        c.propose(0, 1);
        Check.equal("47 what came instead", c.undo(), 1);
        Check.equal("47 the season stays", c.season(), 1);
        Check.equal("47 the call before", c.undo(), 0);
        Check.equal("47 as at first again", c.season(), 0);
    }

    private static void promise47AfterRefusedCalls() {
        HedgeCommittee c = Makers.mains(12);
        for (int i = 0; i < 9; i++) {
            Check.outcome(() -> c.propose(0, 1));
            Check.outcome(() -> c.addHedge(0, 0, 0));
            Makers.runInVain(c, "season;vote 99");
            Makers.runInVain(c, "x");
        }
        for (int left = 7; left >= 0; left--) {
            Check.equal("47 left after refused calls", c.undo(), left);
            Check.equal("47 motions after refused calls", c.motionCount(), 4 + left);
        }
        Check.thrown("47 no more after refused calls", Refusals.STATE, c::undo);
    }

    // ---- save and restore

    private static void promise48SaveOfNothingAndOfAll() {
        HedgeCommittee c = Makers.fresh();
        c.save();
        c.addHedge(1, 0, 0);
        c.propose(0, 1);
        c.passSeason();
        c.restore();
        Check.equal("48 nothing", Whole.answers(c), Whole.answers(Makers.fresh()));
        HedgeCommittee full = Makers.full();
        String before = Whole.answers(full);
        full.save();
        for (int id = 11; id >= 7; id--) {
            full.vote(id);
        }
        full.prune(0, 0);
        Makers.pass(full, 5);
        full.restore();
        Check.equal("48 all", Whole.answers(full), before);
        Check.equal("48 replaces what was saved", full.motionCount(), 12);
    }

    private static void promise48NoChangingCall() {
        HedgeCommittee c = Makers.fresh();
        c.save();
        Check.thrown("48 nothing to undo", Refusals.STATE, c::undo);
        Makers.pass(c, 8);
        c.save();
        Check.equal("48 eight to undo", c.undo(), 7);
        c.restore();
        Check.equal("48 saved before undo", c.season(), 0);
    }

    private static void promise49NoneSaved() {
        FRESH.due("49 restore", Refusals.STATE, ProgramsBoundaryTest::restore);
        new Refusals("chain", Makers::chain).due("49 restore", Refusals.STATE,
                ProgramsBoundaryTest::restore);
    }

    private static void promise49NoUndoAfterwards() {
        new Refusals("restored", ProgramsBoundaryTest::restored).due("49 undo", Refusals.STATE,
                HedgeCommittee::undo);
        HedgeCommittee c = restored();
        Makers.pass(c, 9);
        for (int left = 7; left >= 0; left--) {
            Check.equal("49 undo of later calls", c.undo(), left);
        }
        Check.thrown("49 and of eight alone", Refusals.STATE, c::undo);
    }

    private static HedgeCommittee restored() {
        HedgeCommittee c = Makers.midway();
        restore(c);
        return c;
    }

    private static void promise49StaysSaved() {
        HedgeCommittee c = Makers.midway();
        save(c);
        String before = Whole.answers(c);
        for (int i = 0; i < 3; i++) {
            c.vote(3);
            Makers.pass(c, 9);
            c.restore();
            Check.equal("49 restored again", Whole.answers(c), before);
            Check.equal("49 next id", c.propose(0, 1), 9);
        }
    }

    /** Six hedges of other numbers have come where the saved ones were. */
    private static void promise49EachHedgeAsItWas() {
        HedgeCommittee c = Makers.fresh();
        c.save();
        c.propose(0, 1);
        for (int i = 0; i < 6; i++) {
            c.addHedge(1 + i, 9 - i, i);
        }
        String before = hedges(c);
        c.save();
        for (int i = 0; i < 6; i++) {
            c.undo();
        }
        for (int i = 0; i < 6; i++) {
            c.addHedge(99 - i, i, 9 - i);
        }
        String others = hedges(c);
        c.restore();
        Check.equal("49 each hedge as it was", hedges(c), before);
        Check.equal("49 unlike the others", others.equals(before), false);
    }

    private static String hedges(HedgeCommittee c) {
        StringBuilder text = new StringBuilder();
        for (int tone = 0; tone < 10; tone++) {
            text.append(c.leavesInFavour(c.propose(tone, 1))).append(' ');
            c.undo();
        }
        for (int hedge = 0; hedge < 6; hedge++) {
            text.append(c.leaves(hedge)).append('/').append(c.thorns(hedge)).append(' ');
            text.append(c.wouldVeto(hedge, 0)).append(' ');
        }
        return text.toString();
    }
}
