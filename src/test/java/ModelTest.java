/**
 * Long mixed runs of calls, each answered by the program and by the model of the document. The
 * runs are drawn from written seeds, so that they are the same every time.
 */
public final class ModelTest {
    private static final int RUNS = 600;
    private static final int CALLS = 512;
    private static final int MOST_SHOWN = 20;
    private static final String SIGNS = "0123456789 ;hmaprvs/:";

    private final int run;
    private long seed;
    private int calls;
    private HedgeCommittee program = new HedgeCommittee();
    private Model model = new Model();

    private ModelTest(int run) {
        this.run = run;
        this.seed = run * 7919L + 17;
    }

    public static void main(String[] args) {
        for (int run = 0; run < RUNS && Check.wrongOnes() < MOST_SHOWN; run++) {
            new ModelTest(run).play();
        }
        Check.finish();
    }

    private int draw(int bound) {
        seed = seed * 6364136223846793005L + 1442695040888963407L;
        return (int) ((seed >>> 33) % bound);
    }

    private int drawIn(int from, int to) {
        return from + draw(to - from + 1);
    }

    /** Mostly within the range, now and then just outside it or far away. */
    private int near(int from, int to) {
        switch (draw(24)) {
            case 0: return from - 1;
            case 1: return to + 1;
            case 2: return draw(2) == 0 ? Integer.MIN_VALUE : Integer.MAX_VALUE;
            default: return drawIn(from, to);
        }
    }

    private int id() {
        int count = model.motionCount();
        if (count == 0 || draw(20) == 0) {
            return near(0, 12);
        }
        return model.motionAt(draw(count));
    }

    private void same(String what, Check.Call ofProgram, Check.Call ofModel) {
        calls++;
        Check.equal("run " + run + ", call " + calls + ": " + what, Check.outcome(ofProgram),
                Check.outcome(ofModel));
    }

    private void play() {
        // Some runs begin full, so that the long trees and the limits are met too; and some with
        // weights about the greatest int, so that sums of weights go beyond it.
        if (run % 3 == 0) {
            for (int i = 0; i < 12; i++) {
                change(run % 2 == 0 ? 0 : 2);
            }
        } else if (run % 5 == 0) {
            growGreat();
        }
        while (calls < CALLS - 110) {
            int kind = draw(20);
            if (kind < 8) {
                change(draw(10));
            } else if (kind < 10) {
                askHedges(draw(6));
            } else if (kind < 13) {
                askMotions(draw(10));
            } else if (kind < 15) {
                askTrees(draw(8));
            } else if (kind < 17) {
                askTotals(draw(8));
            } else if (kind < 18) {
                write();
            } else {
                runProgram();
            }
            if (draw(30) == 0) {
                keep();
            }
            if (draw(60) == 0) {
                undoAll();
            }
        }
    }

    /** Proposes two motions and lets each grow by half, and half again, by carried amendments. */
    private void growGreat() {
        same("addHedge(99, 0, 5)", () -> program.addHedge(99, 0, 5), () -> model.addHedge(99, 0, 5));
        for (int i = 0; i < 2; i++) {
            same("propose(4, 20)", () -> program.propose(4, 20), () -> model.propose(4, 20));
            int top = model.motionAt(i);
            int rounds = drawIn(43, 47);
            for (int round = 0; round < rounds; round++) {
                same("regrow(" + top + ")", () -> program.regrow(top), () -> model.regrow(top));
                int tip = model.lastTip(top);
                same("vote(" + tip + ")", () -> program.vote(tip), () -> model.vote(tip));
            }
        }
    }

    private void change(int kind) {
        int m = id();
        switch (kind) {
            case 0:
                int leaves = near(1, 99);
                int thorns = near(0, 9);
                int taste = near(0, 9);
                same("addHedge(" + leaves + ", " + thorns + ", " + taste + ")",
                        () -> program.addHedge(leaves, thorns, taste),
                        () -> model.addHedge(leaves, thorns, taste));
                break;
            case 1:
            case 2:
                int tone = near(0, 9);
                int weight = near(1, 20);
                same("propose(" + tone + ", " + weight + ")", () -> program.propose(tone, weight),
                        () -> model.propose(tone, weight));
                break;
            case 3:
            case 4:
                int t = near(0, 9);
                int w = near(1, 20);
                same("amend(" + m + ", " + t + ", " + w + ")", () -> program.amend(m, t, w),
                        () -> model.amend(m, t, w));
                break;
            case 5:
                int levels = draw(3) == 0 ? near(0, 9) : drawIn(0, 3);
                same("prune(" + m + ", " + levels + ")", () -> program.prune(m, levels),
                        () -> model.prune(m, levels));
                break;
            case 6:
                same("regrow(" + m + ")", () -> program.regrow(m), () -> model.regrow(m));
                break;
            case 7:
                same("vote(" + m + ")", () -> program.vote(m), () -> model.vote(m));
                break;
            case 8:
                same("passSeason()", program::passSeason, model::passSeason);
                break;
            default:
                same("undo()", program::undo, model::undo);
        }
    }

    private void askHedges(int kind) {
        int m = id();
        int h = near(0, 5);
        switch (kind) {
            case 0:
                same("hedgeCount()", program::hedgeCount, model::hedgeCount);
                break;
            case 1:
                same("leaves(" + h + ")", () -> program.leaves(h), () -> model.leaves(h));
                break;
            case 2:
                same("thorns(" + h + ")", () -> program.thorns(h), () -> model.thorns(h));
                break;
            case 3:
                same("hedgeAtRank(" + h + ")", () -> program.hedgeAtRank(h),
                        () -> model.hedgeAtRank(h));
                break;
            case 4:
                same("leavesInFavour(" + m + ")", () -> program.leavesInFavour(m),
                        () -> model.leavesInFavour(m));
                break;
            default:
                same("wouldVeto(" + h + ", " + m + ")", () -> program.wouldVeto(h, m),
                        () -> model.wouldVeto(h, m));
        }
    }

    private void askMotions(int kind) {
        int m = id();
        int at = near(0, Math.max(0, model.motionCount() - 1));
        switch (kind) {
            case 0:
                same("motionCount()", program::motionCount, model::motionCount);
                break;
            case 1:
                same("motionAt(" + at + ")", () -> program.motionAt(at), () -> model.motionAt(at));
                break;
            case 2:
                same("tone(" + m + ")", () -> program.tone(m), () -> model.tone(m));
                break;
            case 3:
                same("weight(" + m + ")", () -> program.weight(m), () -> model.weight(m));
                break;
            case 4:
                same("parent(" + m + ")", () -> program.parent(m), () -> model.parent(m));
                break;
            case 5:
                same("depth(" + m + ")", () -> program.depth(m), () -> model.depth(m));
                break;
            case 6:
                same("isTip(" + m + ")", () -> program.isTip(m), () -> model.isTip(m));
                break;
            case 7:
                same("branchSize(" + m + ")", () -> program.branchSize(m),
                        () -> model.branchSize(m));
                break;
            case 8:
                same("lastTip(" + m + ")", () -> program.lastTip(m), () -> model.lastTip(m));
                break;
            default:
                same("motionAtRank(" + at + ")", () -> program.motionAtRank(at),
                        () -> model.motionAtRank(at));
        }
    }

    private void askTrees(int kind) {
        int m = id();
        int n = id();
        switch (kind) {
            case 0:
                same("commonMotion(" + m + ", " + n + ")", () -> program.commonMotion(m, n),
                        () -> model.commonMotion(m, n));
                break;
            case 1:
                same("commonMotionByRows(" + m + ", " + n + ")",
                        () -> program.commonMotionByRows(m, n), () -> model.commonMotion(m, n));
                break;
            case 2:
                same("pathSize(" + m + ", " + n + ")", () -> program.pathSize(m, n),
                        () -> model.pathSize(m, n));
                break;
            case 3:
                same("longestPath(" + m + ")", () -> program.longestPath(m),
                        () -> model.longestPath(m));
                break;
            case 4:
                same("longestPathBySweeps(" + m + ")", () -> program.longestPathBySweeps(m),
                        () -> model.longestPath(m));
                break;
            case 5:
                same("bestWorth()", program::bestWorth, model::bestWorth);
                break;
            case 6:
                same("bestWorthBySets()", program::bestWorthBySets, model::bestWorth);
                break;
            default:
                same("goodSets()", program::goodSets, model::goodSets);
        }
    }

    private void askTotals(int kind) {
        int s = near(0, 3);
        switch (kind) {
            case 0:
                same("season()", program::season, model::season);
                break;
            case 1:
                same("minutesIn(" + s + ")", () -> program.minutesIn(s), () -> model.minutesIn(s));
                break;
            case 2:
                same("adoptedWeight()", program::adoptedWeight, model::adoptedWeight);
                break;
            case 3:
                same("weightTotal()", program::weightTotal, model::weightTotal);
                break;
            case 4:
                same("weightByAccounts()", program::weightByAccounts, model::weightTotal);
                break;
            case 5:
                same("meanLeaves()", program::meanLeaves, model::meanLeaves);
                break;
            case 6:
                same("carriedShare()", program::carriedShare, model::carriedShare);
                break;
            default:
                same("isConsistent()", program::isConsistent, () -> true);
        }
    }

    private void write() {
        int m = id();
        same("writeBranch(" + m + ")", () -> program.writeBranch(m), () -> model.writeBranch(m));
        for (int i = 0; i < 3; i++) {
            int index = near(0, 40);
            same("outputAt(" + index + ")", () -> program.outputAt(index),
                    () -> model.outputAt(index));
        }
    }

    private void runProgram() {
        String text = draw(40) == 0 ? "" : programText();
        for (int i = 0; i < text.length(); i++) {
            char character = text.charAt(i);
            same("append('" + character + "')", () -> program.append(character),
                    () -> model.append(character));
        }
        same("run() of " + text, program::run, model::run);
        same("errorPosition()", program::errorPosition, model::errorPosition);
        same("failedCommand()", program::failedCommand, model::failedCommand);
    }

    private String programText() {
        StringBuilder text = new StringBuilder();
        int commands = drawIn(1, draw(3) == 0 ? 8 : 2);
        for (int i = 0; i < commands && text.length() < 61; i++) {
            text.append(i == 0 ? "" : ";").append(commandText());
        }
        if (draw(4) == 0) {
            spoil(text);
        }
        text.setLength(Math.min(text.length(), 61));
        return text.toString();
    }

    private void spoil(StringBuilder text) {
        int at = draw(text.length());
        char sign = draw(9) == 0 ? (char) draw(65536) : SIGNS.charAt(draw(SIGNS.length()));
        switch (draw(4)) {
            case 0: text.setLength(at); break;
            case 1: text.deleteCharAt(at); break;
            case 2: text.insert(at, sign); break;
            default: text.setCharAt(at, sign);
        }
    }

    private String commandText() {
        String m = "" + Math.min(99, Math.max(0, id()));
        switch (draw(7)) {
            case 0: return "hedge " + draw(100) + " " + draw(10) + " " + draw(10);
            case 1: return "main " + draw(10) + " " + drawIn(1, 21);
            case 2: return "amend " + m + " " + draw(10) + " " + drawIn(1, 20);
            case 3: return "prune " + m + " " + draw(4);
            case 4: return "regrow " + m;
            case 5: return "vote " + m;
            default: return "season";
        }
    }

    private void undoAll() {
        for (int i = 0; i < 9; i++) {
            same("undo()", program::undo, model::undo);
            askMotions(draw(10));
            askTotals(draw(8));
        }
    }

    private void keep() {
        if (draw(2) == 0) {
            same("save()", () -> {
                program.save();
                return 0;
            }, model::save);
        } else {
            same("restore()", () -> {
                program.restore();
                return 0;
            }, model::restore);
        }
    }
}
