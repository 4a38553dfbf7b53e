import java.util.ArrayList;
import java.util.Arrays;
import java.util.NoSuchElementException;

/**
 * A committee of hedges: motions with amendments form trees, hedges vote by their leaves and veto
 * by their thorns, and seasons change leaves and thorns.
 */
public final class HedgeCommittee {
    private static final int MAX_HEDGES = 6;
    private static final int MAX_MOTIONS = 12;
    private static final int MAX_LEAVES = 99;
    private static final int MAX_DIGIT = 9;
    private static final int MAX_NEW_WEIGHT = 20;
    private static final int MAX_TEXT = 60;
    private static final int MAX_UNDO = 8;
    private static final int SEASONS = 4;
    private static final int SPRING = 0;
    private static final int MAX_ARGUMENTS = 3;
    private static final int FAVOUR_UP_TO = 3;
    private static final int VETO_FROM = 7;
    private static final int NONE = -1;
    private static final char CARRIED = 'c';
    private static final char REJECTED = 'r';
    private static final char VETOED = 'v';
    private static final int[] LEAVES_GAINED = {4, 2, -2, -4};

    private final State state;
    private final State saved;
    private final History history;
    private final Trees trees;
    private final Program program;
    private final StringBuilder output;
    private boolean hasSaved;
    private int lastErrorPosition;
    private int lastFailedCommand;

    public HedgeCommittee() {
        state = new State();
        saved = new State();
        history = new History();
        trees = new Trees();
        program = new Program();
        output = new StringBuilder();
        hasSaved = false;
        lastErrorPosition = NONE;
        lastFailedCommand = NONE;
    }

    // ---- changes

    public int addHedge(int leaves, int thorns, int taste)
            throws IllegalArgumentException, IllegalStateException {
        history.note(state);
        int hedge = state.newHedge(leaves, thorns, taste);
        history.keepNoted();
        return hedge;
    }

    public int propose(int tone, int weight) throws IllegalArgumentException, IllegalStateException {
        history.note(state);
        int motion = state.newMain(tone, weight);
        history.keepNoted();
        return motion;
    }

    public int amend(int motion, int tone, int weight)
            throws NoSuchElementException, IllegalArgumentException, IllegalStateException {
        history.note(state);
        int amendment = state.newAmendment(motion, tone, weight);
        history.keepNoted();
        return amendment;
    }

    public int prune(int motion, int levels) throws NoSuchElementException, IllegalArgumentException {
        history.note(state);
        int removed = state.cutBack(motion, levels);
        history.keepNoted();
        return removed;
    }

    public int regrow(int motion) throws NoSuchElementException, IllegalStateException {
        history.note(state);
        int amendment = state.growTip(motion);
        history.keepNoted();
        return amendment;
    }

    public char vote(int motion) throws NoSuchElementException, IllegalStateException {
        history.note(state);
        char outcome = state.holdVote(motion);
        history.keepNoted();
        return outcome;
    }

    public int passSeason() {
        history.note(state);
        state.beginNextSeason();
        history.keepNoted();
        return state.season;
    }

    // ---- queries about hedges

    public int hedgeCount() {
        return state.hedges.count;
    }

    public int leaves(int hedge) throws IndexOutOfBoundsException {
        requireHedge(hedge);
        return state.hedges.leaves[hedge];
    }

    public int thorns(int hedge) throws IndexOutOfBoundsException {
        requireHedge(hedge);
        return state.hedges.thorns[hedge];
    }

    public int hedgeAtRank(int rank) throws NoSuchElementException {
        if (!state.hedges.has(rank)) {
            throw new NoSuchElementException("no hedge at this rank");
        }
        return state.hedges.atRank(rank);
    }

    public int leavesInFavour(int motion) throws NoSuchElementException {
        int at = state.motions.require(motion);
        return state.hedges.leavesFor(state.motions.tones[at]);
    }

    public boolean wouldVeto(int hedge, int motion)
            throws IndexOutOfBoundsException, NoSuchElementException {
        requireHedge(hedge);
        int at = state.motions.require(motion);
        return state.hedges.vetoes(hedge, state.motions.tones[at]);
    }

    // ---- queries about motions

    public int motionCount() {
        return state.motions.count;
    }

    public int motionAt(int position) throws IndexOutOfBoundsException {
        requirePosition(position);
        return state.motions.ids[position];
    }

    public int tone(int motion) throws NoSuchElementException {
        return state.motions.tones[state.motions.require(motion)];
    }

    public int weight(int motion) throws NoSuchElementException {
        return state.motions.weights[state.motions.require(motion)];
    }

    public int parent(int motion) throws NoSuchElementException {
        int above = state.motions.parents[state.motions.require(motion)];
        if (above < 0) {
            throw new NoSuchElementException("a main motion has no parent");
        }
        return state.motions.ids[above];
    }

    public int depth(int motion) throws NoSuchElementException {
        return state.motions.depthOf(state.motions.require(motion));
    }

    public boolean isTip(int motion) throws NoSuchElementException {
        return !state.motions.hasAmendments(state.motions.require(motion));
    }

    public int branchSize(int motion) throws NoSuchElementException {
        return state.motions.sizeOfBranch(state.motions.require(motion));
    }

    public int lastTip(int motion) throws NoSuchElementException {
        int tip = state.motions.lastTipOf(state.motions.require(motion));
        return state.motions.ids[tip];
    }

    public int motionAtRank(int rank) throws IndexOutOfBoundsException {
        requirePosition(rank);
        return state.motions.ids[state.motions.atRank(rank)];
    }

    // ---- queries about trees

    public int commonMotion(int one, int other)
            throws NoSuchElementException, UnsupportedOperationException {
        int first = state.motions.require(one);
        int second = state.motions.require(other);
        return idOfCommon(trees.commonByClimbing(state.motions, first, second));
    }

    public int commonMotionByRows(int one, int other)
            throws NoSuchElementException, UnsupportedOperationException {
        int first = state.motions.require(one);
        int second = state.motions.require(other);
        return idOfCommon(trees.commonByRows(state.motions, first, second));
    }

    public int pathSize(int one, int other)
            throws NoSuchElementException, UnsupportedOperationException {
        Motions motions = state.motions;
        int first = motions.require(one);
        int second = motions.require(other);
        int common = trees.commonByClimbing(motions, first, second);
        if (common < 0) {
            throw new UnsupportedOperationException("no path leads from one motion to the other");
        }
        return motions.depthOf(first) + motions.depthOf(second) - 2 * motions.depthOf(common) + 1;
    }

    public int longestPath(int motion) throws NoSuchElementException {
        return trees.longestByHeights(state.motions, state.motions.require(motion));
    }

    public int longestPathBySweeps(int motion) throws NoSuchElementException {
        return trees.longestBySweeps(state.motions, state.motions.require(motion));
    }

    public int bestWorth() {
        return (int) trees.bestByBranches(state.motions);
    }

    public int bestWorthBySets() {
        return (int) trees.bestBySets(state.motions);
    }

    public int goodSets() {
        return trees.countGoodSets(state.motions);
    }

    // ---- totals

    public int season() {
        return state.season;
    }

    public int minutesIn(int season) throws IllegalArgumentException {
        if (season < 0 || season >= SEASONS) {
            throw new IllegalArgumentException("no such season");
        }
        return state.minutes[season];
    }

    public int adoptedWeight() {
        return state.adopted;
    }

    public int weightTotal() {
        return state.motions.totalWeight();
    }

    public int weightByAccounts() {
        return state.accountedWeight();
    }

    public double meanLeaves() throws ArithmeticException {
        if (state.hedges.count == 0) {
            throw new ArithmeticException("no hedges");
        }
        return (double) state.hedges.totalLeaves() / (double) state.hedges.count;
    }

    public float carriedShare() throws ArithmeticException {
        if (state.votes == 0) {
            throw new ArithmeticException("no vote was held");
        }
        return (float) state.carriedVotes / (float) state.votes;
    }

    public boolean isConsistent() {
        Motions motions = state.motions;
        return motions.totalWeight() == state.accountedWeight()
                && trees.bestByBranches(motions) == trees.bestBySets(motions)
                && trees.agreeOnPaths(motions)
                && trees.agreeOnCommonMotions(motions);
    }

    // ---- programs

    public int append(char character) throws IllegalStateException {
        if (program.isFull()) {
            throw new IllegalStateException("the text buffer is full");
        }
        return program.put(character);
    }

    public int run() throws IllegalArgumentException, UnsupportedOperationException {
        int error = program.parse();
        program.empty();
        if (error != NONE) {
            lastErrorPosition = error;
            throw new IllegalArgumentException("the text is not a program");
        }
        history.note(state);
        int failed = firstFailure();
        if (failed != NONE) {
            history.bringBackNoted(state);
            lastFailedCommand = failed;
            throw new UnsupportedOperationException("a command fails");
        }
        history.keepNoted();
        return program.commands.size();
    }

    public int errorPosition() throws NoSuchElementException {
        if (lastErrorPosition == NONE) {
            throw new NoSuchElementException("no error position was stored");
        }
        return lastErrorPosition;
    }

    public int failedCommand() throws NoSuchElementException {
        if (lastFailedCommand == NONE) {
            throw new NoSuchElementException("no failed command was stored");
        }
        return lastFailedCommand;
    }

    // ---- output

    public int writeBranch(int motion) throws NoSuchElementException {
        int top = state.motions.require(motion);
        output.setLength(0);
        writePart(state.motions, top, 0, output);
        return output.length();
    }

    public char outputAt(int index) throws IndexOutOfBoundsException {
        if (index < 0 || index >= output.length()) {
            throw new IndexOutOfBoundsException("no such character");
        }
        return output.charAt(index);
    }

    // ---- undo and snapshot

    public int undo() throws IllegalStateException {
        if (history.count == 0) {
            throw new IllegalStateException("no call can be undone");
        }
        return history.takeBack(state);
    }

    public void save() {
        saved.copyFrom(state);
        hasSaved = true;
    }

    public void restore() throws IllegalStateException {
        if (!hasSaved) {
            throw new IllegalStateException("no state was saved");
        }
        state.copyFrom(saved);
        history.count = 0;
    }

    // ---- helpers of the face

    private void requireHedge(int hedge) {
        if (!state.hedges.has(hedge)) {
            throw new IndexOutOfBoundsException("no such hedge");
        }
    }

    private void requirePosition(int position) {
        if (position < 0 || position >= state.motions.count) {
            throw new IndexOutOfBoundsException("no motion at this place");
        }
    }

    private int idOfCommon(int position) {
        if (position < 0) {
            throw new UnsupportedOperationException("no branch contains both motions");
        }
        return state.motions.ids[position];
    }

    /** Carries out the parsed commands up to the first that fails, and returns its index or NONE. */
    private int firstFailure() {
        for (int index = 0; index < program.commands.size(); index++) {
            if (!succeeds(program.commands.get(index))) {
                return index;
            }
        }
        return NONE;
    }

    // The commands work on the state and not through the face, so that a run is one step to undo.
    private boolean succeeds(Command command) {
        try {
            switch (command.kind) {
                case HEDGE:
                    state.newHedge(command.first, command.second, command.third);
                    break;
                case MAIN:
                    state.newMain(command.first, command.second);
                    break;
                case AMEND:
                    state.newAmendment(command.first, command.second, command.third);
                    break;
                case PRUNE:
                    state.cutBack(command.first, command.second);
                    break;
                case REGROW:
                    state.growTip(command.first);
                    break;
                case VOTE:
                    state.holdVote(command.first);
                    break;
                case SEASON:
                    state.beginNextSeason();
                    break;
            }
            return true;
        } catch (NoSuchElementException e) {
            return false;
        } catch (IllegalArgumentException e) {
            return false;
        } catch (IllegalStateException e) {
            return false;
        }
    }

    private static void writePart(Motions motions, int top, int level, StringBuilder line) {
        if (level >= MAX_MOTIONS) {
            return;
        }
        line.append(motions.ids[top]);
        line.append(':');
        line.append(motions.tones[top]);
        line.append('*');
        line.append(motions.weights[top]);
        char lead = '(';
        for (int at = top + 1; at < motions.count; at++) {
            if (motions.parents[at] == top) {
                line.append(lead);
                writePart(motions, at, level + 1, line);
                lead = ',';
            }
        }
        if (lead == ',') {
            line.append(')');
        }
    }

    /** The hedges, by index. */
    private static final class Hedges {
        private final int[] leaves;
        private final int[] thorns;
        private final int[] tastes;
        private int count;

        Hedges() {
            leaves = new int[MAX_HEDGES];
            thorns = new int[MAX_HEDGES];
            tastes = new int[MAX_HEDGES];
            count = 0;
        }

        void copyFrom(Hedges other) {
            System.arraycopy(other.leaves, 0, leaves, 0, MAX_HEDGES);
            System.arraycopy(other.thorns, 0, thorns, 0, MAX_HEDGES);
            System.arraycopy(other.tastes, 0, tastes, 0, MAX_HEDGES);
            count = other.count;
        }

        boolean has(int index) {
            return index >= 0 && index < count;
        }

        boolean isFull() {
            return count >= MAX_HEDGES;
        }

        int add(int leafCount, int thornCount, int taste) {
            int hedge = count;
            leaves[hedge] = leafCount;
            thorns[hedge] = thornCount;
            tastes[hedge] = taste;
            count = hedge + 1;
            return hedge;
        }

        int difference(int hedge, int tone) {
            int difference = tastes[hedge] - tone;
            return difference < 0 ? -difference : difference;
        }

        boolean vetoes(int hedge, int tone) {
            return difference(hedge, tone) >= VETO_FROM && thorns[hedge] >= 1;
        }

        int leavesFor(int tone) {
            int sum = 0;
            for (int hedge = 0; hedge < count; hedge++) {
                if (difference(hedge, tone) <= FAVOUR_UP_TO) {
                    sum += leaves[hedge];
                }
            }
            return sum;
        }

        int totalLeaves() {
            int sum = 0;
            for (int hedge = 0; hedge < count; hedge++) {
                sum += leaves[hedge];
            }
            return sum;
        }

        /** Decides on a tip, and takes a thorn from each hedge that vetoes it. */
        char decideOn(int tone) {
            boolean isVetoed = false;
            for (int hedge = 0; hedge < count; hedge++) {
                if (vetoes(hedge, tone)) {
                    thorns[hedge]--;
                    isVetoed = true;
                }
            }
            if (isVetoed) {
                return VETOED;
            }
            return 2 * leavesFor(tone) > totalLeaves() ? CARRIED : REJECTED;
        }

        void meet(int season) {
            for (int hedge = 0; hedge < count; hedge++) {
                int changed = leaves[hedge] + LEAVES_GAINED[season];
                leaves[hedge] = Math.max(1, Math.min(MAX_LEAVES, changed));
                if (season == SPRING && thorns[hedge] < MAX_DIGIT) {
                    thorns[hedge]++;
                }
            }
        }

        boolean ranksBefore(int one, int other) {
            if (leaves[one] != leaves[other]) {
                return leaves[one] > leaves[other];
            }
            if (thorns[one] != thorns[other]) {
                return thorns[one] > thorns[other];
            }
            return one < other;
        }

        /** Returns the hedge at a rank that is less than the number of hedges. */
        int atRank(int rank) {
            int found = 0;
            for (int hedge = 0; hedge < count; hedge++) {
                if (rankOf(hedge) == rank) {
                    found = hedge;
                }
            }
            return found;
        }

        private int rankOf(int hedge) {
            int before = 0;
            for (int other = 0; other < count; other++) {
                if (ranksBefore(other, hedge)) {
                    before++;
                }
            }
            return before;
        }
    }

    /**
     * The motions, by position in ascending order of ids. The parent of a motion is held by its
     * position, which is always less than the motion's own: an amendment has the greater id.
     */
    private static final class Motions {
        private final int[] ids;
        private final int[] tones;
        private final int[] weights;
        private final int[] parents;
        private int count;
        private int nextId;

        Motions() {
            ids = new int[MAX_MOTIONS];
            tones = new int[MAX_MOTIONS];
            weights = new int[MAX_MOTIONS];
            parents = new int[MAX_MOTIONS];
            count = 0;
            nextId = 0;
        }

        void copyFrom(Motions other) {
            System.arraycopy(other.ids, 0, ids, 0, MAX_MOTIONS);
            System.arraycopy(other.tones, 0, tones, 0, MAX_MOTIONS);
            System.arraycopy(other.weights, 0, weights, 0, MAX_MOTIONS);
            System.arraycopy(other.parents, 0, parents, 0, MAX_MOTIONS);
            count = other.count;
            nextId = other.nextId;
        }

        boolean isFull() {
            return count >= MAX_MOTIONS;
        }

        /** Returns the position of the motion with an id. */
        int require(int id) {
            for (int at = 0; at < count; at++) {
                if (ids[at] == id) {
                    return at;
                }
            }
            throw new NoSuchElementException("no such motion");
        }

        int add(int above, int tone, int weight) {
            int id = nextId;
            ids[count] = id;
            tones[count] = tone;
            weights[count] = weight;
            parents[count] = above;
            count++;
            nextId = id + 1;
            return id;
        }

        // Only tips are taken out, so no motion is left whose parent is gone.
        void removeTip(int tip) {
            for (int at = tip + 1; at < count; at++) {
                ids[at - 1] = ids[at];
                tones[at - 1] = tones[at];
                weights[at - 1] = weights[at];
                parents[at - 1] = parents[at] > tip ? parents[at] - 1 : parents[at];
            }
            count--;
        }

        boolean hasAmendments(int position) {
            for (int at = position + 1; at < count; at++) {
                if (parents[at] == position) {
                    return true;
                }
            }
            return false;
        }

        int depthOf(int position) {
            int climbed = 0;
            int above = parents[position];
            while (above >= 0 && climbed < MAX_MOTIONS) {
                above = parents[above];
                climbed++;
            }
            return climbed;
        }

        boolean isInBranch(int position, int top) {
            int at = position;
            for (int climbed = 0; climbed < MAX_MOTIONS && at > top; climbed++) {
                at = parents[at];
            }
            return at == top;
        }

        int sizeOfBranch(int top) {
            int size = 0;
            for (int at = top; at < count; at++) {
                if (isInBranch(at, top)) {
                    size++;
                }
            }
            return size;
        }

        int lastTipOf(int top) {
            for (int at = count - 1; at > top; at--) {
                if (isInBranch(at, top) && !hasAmendments(at)) {
                    return at;
                }
            }
            return top;
        }

        int totalWeight() {
            int sum = 0;
            for (int at = 0; at < count; at++) {
                sum += weights[at];
            }
            return sum;
        }

        boolean ranksBefore(int one, int other) {
            if (weights[one] != weights[other]) {
                return weights[one] > weights[other];
            }
            int depthOfOne = depthOf(one);
            int depthOfOther = depthOf(other);
            if (depthOfOne != depthOfOther) {
                return depthOfOne < depthOfOther;
            }
            return one < other;
        }

        /** Returns the position of the motion at a rank that is less than the number of motions. */
        int atRank(int rank) {
            int found = 0;
            for (int at = 0; at < count; at++) {
                if (rankOf(at) == rank) {
                    found = at;
                }
            }
            return found;
        }

        private int rankOf(int position) {
            int before = 0;
            for (int other = 0; other < count; other++) {
                if (ranksBefore(other, position)) {
                    before++;
                }
            }
            return before;
        }
    }

    /**
     * All that undo, save and restore concern. Each change looks at all its conditions before it
     * changes anything, so that a change that throws leaves the state as it was.
     */
    private static final class State {
        private final Hedges hedges;
        private final Motions motions;
        private final int[] minutes;
        private int season;
        private int votes;
        private int carriedVotes;
        private int begun;
        private int pruned;
        private int rejected;
        private int vetoed;
        private int adopted;

        State() {
            hedges = new Hedges();
            motions = new Motions();
            minutes = new int[SEASONS];
            season = SPRING;
        }

        void copyFrom(State other) {
            hedges.copyFrom(other.hedges);
            motions.copyFrom(other.motions);
            System.arraycopy(other.minutes, 0, minutes, 0, SEASONS);
            season = other.season;
            votes = other.votes;
            carriedVotes = other.carriedVotes;
            begun = other.begun;
            pruned = other.pruned;
            rejected = other.rejected;
            vetoed = other.vetoed;
            adopted = other.adopted;
        }

        int accountedWeight() {
            return begun - pruned - rejected - vetoed - adopted;
        }

        int newHedge(int leaves, int thorns, int taste) {
            if (leaves < 1 || leaves > MAX_LEAVES || !isDigit(thorns) || !isDigit(taste)) {
                throw new IllegalArgumentException("leaves, thorns or taste out of range");
            }
            if (hedges.isFull()) {
                throw new IllegalStateException("no room for another hedge");
            }
            return hedges.add(leaves, thorns, taste);
        }

        int newMain(int tone, int weight) {
            requireToneAndWeight(tone, weight);
            requireRoom();
            return begin(NONE, tone, weight);
        }

        int newAmendment(int motion, int tone, int weight) {
            int above = motions.require(motion);
            requireToneAndWeight(tone, weight);
            requireRoom();
            return begin(above, tone, weight);
        }

        int growTip(int motion) {
            int tip = motions.lastTipOf(motions.require(motion));
            requireRoom();
            int tone = motions.tones[tip] == MAX_DIGIT ? 0 : motions.tones[tip] + 1;
            return begin(tip, tone, Math.max(1, motions.weights[tip] / 2));
        }

        int cutBack(int motion, int levels) {
            int top = motions.require(motion);
            if (!isDigit(levels)) {
                throw new IllegalArgumentException("levels out of range");
            }
            int deepest = motions.depthOf(top) + levels;
            int removed = 0;
            // From the last to the first: amendments go before the motions that they amend.
            for (int at = motions.count - 1; at > top; at--) {
                if (motions.isInBranch(at, top) && motions.depthOf(at) > deepest) {
                    pruned += motions.weights[at];
                    motions.removeTip(at);
                    removed++;
                }
            }
            return removed;
        }

        char holdVote(int motion) {
            int tip = motions.require(motion);
            if (hedges.count == 0) {
                throw new IllegalStateException("no hedges");
            }
            if (motions.hasAmendments(tip)) {
                throw new IllegalStateException("the motion is not a tip");
            }
            char outcome = hedges.decideOn(motions.tones[tip]);
            votes++;
            bookOutcome(outcome, motions.weights[tip], motions.parents[tip]);
            motions.removeTip(tip);
            return outcome;
        }

        private void bookOutcome(char outcome, int weight, int above) {
            if (outcome == VETOED) {
                vetoed += weight;
                return;
            }
            if (outcome == REJECTED) {
                rejected += weight;
                return;
            }
            carriedVotes++;
            if (above >= 0) {
                motions.weights[above] += weight;
            } else {
                minutes[season]++;
                adopted += weight;
            }
        }

        void beginNextSeason() {
            season = season + 1 < SEASONS ? season + 1 : SPRING;
            hedges.meet(season);
        }

        private int begin(int above, int tone, int weight) {
            begun += weight;
            return motions.add(above, tone, weight);
        }

        private void requireRoom() {
            if (motions.isFull()) {
                throw new IllegalStateException("no room for another motion");
            }
        }

        private static void requireToneAndWeight(int tone, int weight) {
            if (!isDigit(tone) || weight < 1 || weight > MAX_NEW_WEIGHT) {
                throw new IllegalArgumentException("tone or weight out of range");
            }
        }

        private static boolean isDigit(int number) {
            return number >= 0 && number <= MAX_DIGIT;
        }
    }

    /** Measures the trees of motions. The rows are made once and hold nothing between two calls. */
    private static final class Trees {
        private final int[] rowOfOne;
        private final int[] rowOfOther;
        private final int[] heights;
        private final int[] distances;
        private final long[] with;
        private final long[] without;

        Trees() {
            rowOfOne = new int[MAX_MOTIONS];
            rowOfOther = new int[MAX_MOTIONS];
            heights = new int[MAX_MOTIONS];
            distances = new int[MAX_MOTIONS];
            with = new long[MAX_MOTIONS];
            without = new long[MAX_MOTIONS];
        }

        /** Returns the position of the common motion or NONE. */
        int commonByClimbing(Motions motions, int one, int other) {
            int first = one;
            int second = other;
            int depthOfFirst = motions.depthOf(first);
            int depthOfSecond = motions.depthOf(second);
            for (int step = 0; step < 2 * MAX_MOTIONS && first != second; step++) {
                if (depthOfFirst == 0 && depthOfSecond == 0) {
                    return NONE;
                }
                if (depthOfFirst >= depthOfSecond) {
                    first = motions.parents[first];
                    depthOfFirst--;
                } else {
                    second = motions.parents[second];
                    depthOfSecond--;
                }
            }
            return first;
        }

        /** Returns the position of the common motion or NONE. */
        int commonByRows(Motions motions, int one, int other) {
            int sizeOfOne = fillRow(motions, one, rowOfOne);
            int sizeOfOther = fillRow(motions, other, rowOfOther);
            int common = NONE;
            for (int level = 0; level < sizeOfOne && level < sizeOfOther; level++) {
                if (rowOfOne[level] != rowOfOther[level]) {
                    return common;
                }
                common = rowOfOne[level];
            }
            return common;
        }

        /** Fills a row with the motions from the main motion down, and returns how many they are. */
        private static int fillRow(Motions motions, int position, int[] row) {
            int depth = motions.depthOf(position);
            int at = position;
            for (int level = depth; level >= 0; level--) {
                row[level] = at;
                at = motions.parents[at];
            }
            return depth + 1;
        }

        int longestByHeights(Motions motions, int top) {
            Arrays.fill(heights, 0);
            int longest = 1;
            // From the last to the first: heights[at] is whole when its turn comes.
            for (int at = motions.count - 1; at > top; at--) {
                if (motions.isInBranch(at, top)) {
                    int above = motions.parents[at];
                    int height = heights[at] + 1;
                    longest = Math.max(longest, heights[above] + 1 + height);
                    heights[above] = Math.max(heights[above], height);
                }
            }
            return longest;
        }

        int longestBySweeps(Motions motions, int top) {
            int oneEnd = farthestFrom(motions, top, top);
            int otherEnd = farthestFrom(motions, oneEnd, top);
            return distances[otherEnd] + 1;
        }

        /** Returns the motion of the branch that is farthest, with all distances in their row. */
        private int farthestFrom(Motions motions, int start, int top) {
            Arrays.fill(distances, NONE);
            int at = start;
            for (int climbed = 0; climbed < MAX_MOTIONS && at >= top; climbed++) {
                distances[at] = climbed;
                at = motions.parents[at];
            }
            int farthest = start;
            for (int next = top; next < motions.count; next++) {
                int above = motions.parents[next];
                if (distances[next] < 0 && above >= top && distances[above] >= 0) {
                    distances[next] = distances[above] + 1;
                }
                if (distances[next] > distances[farthest]) {
                    farthest = next;
                }
            }
            return farthest;
        }

        // Weights that were added up often can make a worth greater than an int holds: the worths are
        // long, so that the greatest one is the same however the weights are added.
        long bestByBranches(Motions motions) {
            Arrays.fill(with, 0);
            Arrays.fill(without, 0);
            long best = 0;
            for (int at = motions.count - 1; at >= 0; at--) {
                int above = motions.parents[at];
                with[at] += motions.weights[at];
                long bestOfBranch = Math.max(with[at], without[at]);
                if (above >= 0) {
                    with[above] += without[at];
                    without[above] += bestOfBranch;
                } else {
                    best += bestOfBranch;
                }
            }
            return best;
        }

        long bestBySets(Motions motions) {
            long best = 0;
            int end = 1 << motions.count;
            for (int set = 0; set < end; set++) {
                if (isGood(motions, set)) {
                    best = Math.max(best, worthOf(motions, set));
                }
            }
            return best;
        }

        /** Returns whether a set, whose motions are its bits, has no motion with its parent. */
        private static boolean isGood(Motions motions, int set) {
            for (int at = 0; at < motions.count; at++) {
                int above = motions.parents[at];
                if (above >= 0 && (set >> at & 1) == 1 && (set >> above & 1) == 1) {
                    return false;
                }
            }
            return true;
        }

        private static long worthOf(Motions motions, int set) {
            long worth = 0;
            for (int at = 0; at < motions.count; at++) {
                if ((set >> at & 1) == 1) {
                    worth += motions.weights[at];
                }
            }
            return worth;
        }

        // An int holds the number, since twelve motions have no more than 4096 sets.
        int countGoodSets(Motions motions) {
            Arrays.fill(with, 1);
            Arrays.fill(without, 1);
            long sets = 1;
            for (int at = motions.count - 1; at >= 0; at--) {
                int above = motions.parents[at];
                long setsOfBranch = with[at] + without[at];
                if (above >= 0) {
                    with[above] *= without[at];
                    without[above] *= setsOfBranch;
                } else {
                    sets *= setsOfBranch;
                }
            }
            return (int) sets;
        }

        boolean agreeOnPaths(Motions motions) {
            for (int top = 0; top < motions.count; top++) {
                if (longestByHeights(motions, top) != longestBySweeps(motions, top)) {
                    return false;
                }
            }
            return true;
        }

        boolean agreeOnCommonMotions(Motions motions) {
            for (int one = 0; one < motions.count; one++) {
                for (int other = 0; other < motions.count; other++) {
                    if (commonByClimbing(motions, one, other) != commonByRows(motions, one, other)) {
                        return false;
                    }
                }
            }
            return true;
        }
    }

    /**
     * The states before the calls that can be undone, the oldest first. Behind them one more state
     * is free to note the present one before it is known whether the call succeeds.
     */
    private static final class History {
        private final State[] states;
        private int count;

        History() {
            states = new State[MAX_UNDO + 1];
            for (int i = 0; i < states.length; i++) {
                states[i] = new State();
            }
            count = 0;
        }

        void note(State present) {
            states[count].copyFrom(present);
        }

        void bringBackNoted(State present) {
            present.copyFrom(states[count]);
        }

        void keepNoted() {
            if (count < MAX_UNDO) {
                count++;
            } else {
                forgetOldest();
            }
        }

        private void forgetOldest() {
            State oldest = states[0];
            for (int i = 1; i < states.length; i++) {
                states[i - 1] = states[i];
            }
            states[states.length - 1] = oldest;
        }

        /** Brings back the youngest state that was kept, and returns how many are left. */
        int takeBack(State present) {
            if (count > 0) {
                count--;
                present.copyFrom(states[count]);
            }
            return count;
        }
    }

    /** The commands of the grammar. In a pattern, # is a number and ? a digit. */
    private enum Kind {
        HEDGE("hedge # ? ?"),
        MAIN("main ? #"),
        AMEND("amend # ? #"),
        PRUNE("prune # ?"),
        REGROW("regrow #"),
        VOTE("vote #"),
        SEASON("season");

        private final String pattern;

        Kind(String pattern) {
            this.pattern = pattern;
        }
    }

    private static final class Command {
        private final Kind kind;
        private final int first;
        private final int second;
        private final int third;

        Command(Kind kind, int first, int second, int third) {
            this.kind = kind;
            this.first = first;
            this.second = second;
            this.third = third;
        }
    }

    /** The text buffer and the commands that were read from it last. */
    private static final class Program {
        private static final Kind[] KINDS = Kind.values();
        private static final char NUMBER = '#';
        private static final char DIGIT = '?';

        private final char[] text;
        private final int[] arguments;
        private final ArrayList<Command> commands;
        private int length;
        private int at;

        Program() {
            text = new char[MAX_TEXT];
            arguments = new int[MAX_ARGUMENTS];
            commands = new ArrayList<Command>();
            length = 0;
            at = 0;
        }

        boolean isFull() {
            return length >= MAX_TEXT;
        }

        int put(char character) {
            text[length] = character;
            length++;
            return length;
        }

        void empty() {
            length = 0;
        }

        /** Reads the text into commands. Returns the error position, or NONE for a program. */
        int parse() {
            commands.clear();
            at = 0;
            // A command takes a character at least, so there are no more of them than characters.
            for (int round = 0; round < MAX_TEXT; round++) {
                if (!readCommand()) {
                    return at;
                }
                if (at >= length) {
                    return NONE;
                }
                if (!readSign(';')) {
                    return at;
                }
            }
            return at;
        }

        private boolean readCommand() {
            Kind kind = kindAhead();
            if (kind == null) {
                return false;
            }
            Arrays.fill(arguments, 0);
            int found = 0;
            for (int i = 0; i < kind.pattern.length(); i++) {
                char sign = kind.pattern.charAt(i);
                if (sign == NUMBER || sign == DIGIT) {
                    if (found >= MAX_ARGUMENTS || !digitAhead()) {
                        return false;
                    }
                    arguments[found] = readDigits(sign == NUMBER);
                    found++;
                } else if (!readSign(sign)) {
                    return false;
                }
            }
            commands.add(new Command(kind, arguments[0], arguments[1], arguments[2]));
            return true;
        }

        // The first letter alone tells the commands of the grammar apart.
        private Kind kindAhead() {
            if (at < length) {
                for (Kind kind : KINDS) {
                    if (kind.pattern.charAt(0) == text[at]) {
                        return kind;
                    }
                }
            }
            return null;
        }

        private boolean readSign(char sign) {
            if (at < length && text[at] == sign) {
                at++;
                return true;
            }
            return false;
        }

        private boolean digitAhead() {
            return at < length && text[at] >= '0' && text[at] <= '9';
        }

        private int readDigits(boolean mayHaveTwo) {
            int value = text[at] - '0';
            at++;
            if (mayHaveTwo && digitAhead()) {
                value = 10 * value + text[at] - '0';
                at++;
            }
            return value;
        }
    }
}
