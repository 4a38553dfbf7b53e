import java.util.ArrayDeque;
import java.util.ArrayList;
import java.util.HashMap;
import java.util.List;
import java.util.Map;
import java.util.NoSuchElementException;
import java.util.TreeMap;
import java.util.regex.Matcher;
import java.util.regex.Pattern;

/** The document once more, in another way: by objects, maps, graphs and a regular expression. */
final class Model {
    private static final String COMMAND = "(?:hedge \\d\\d? \\d \\d|main \\d \\d\\d?|amend \\d\\d? \\d"
            + " \\d\\d?|prune \\d\\d? \\d|regrow \\d\\d?|vote \\d\\d?|season)";
    private static final Pattern PROGRAM = Pattern.compile(COMMAND + "(?:;" + COMMAND + ")*");

    static final class Hedge {
        int leaves;
        int thorns;
        int taste;
    }

    static final class Motion {
        int id;
        int tone;
        int weight;
        Integer parent;
    }

    static final class World {
        List<Hedge> hedges = new ArrayList<>();
        TreeMap<Integer, Motion> motions = new TreeMap<>();
        int next;
        int season;
        int[] minutes = new int[4];
        int adopted;
        int votes;
        int carried;

        World copy() {
            World w = new World();
            for (Hedge h : hedges) {
                Hedge twin = new Hedge();
                twin.leaves = h.leaves;
                twin.thorns = h.thorns;
                twin.taste = h.taste;
                w.hedges.add(twin);
            }
            for (Motion m : motions.values()) {
                w.enter(m.id, m.tone, m.weight, m.parent);
            }
            w.next = next;
            w.season = season;
            w.minutes = minutes.clone();
            w.adopted = adopted;
            w.votes = votes;
            w.carried = carried;
            return w;
        }

        void enter(int id, int tone, int weight, Integer parent) {
            Motion m = new Motion();
            m.id = id;
            m.tone = tone;
            m.weight = weight;
            m.parent = parent;
            motions.put(id, m);
        }
    }

    private World w = new World();
    private World saved;
    private final ArrayDeque<World> past = new ArrayDeque<>();
    private String text = "";
    private String line = "";
    private Integer error;
    private Integer failed;

    // ---- changes

    private void demand(boolean holds, RuntimeException otherwise) {
        if (!holds) {
            throw otherwise;
        }
    }

    private Motion motion(int id) {
        demand(w.motions.containsKey(id), new NoSuchElementException());
        return w.motions.get(id);
    }

    private void remember(World before) {
        past.push(before);
        if (past.size() > 8) {
            past.removeLast();
        }
    }

    int addHedge(int leaves, int thorns, int taste) {
        demand(leaves >= 1 && leaves <= 99 && thorns >= 0 && thorns <= 9 && taste >= 0 && taste <= 9,
                new IllegalArgumentException());
        demand(w.hedges.size() < 6, new IllegalStateException());
        remember(w.copy());
        Hedge h = new Hedge();
        h.leaves = leaves;
        h.thorns = thorns;
        h.taste = taste;
        w.hedges.add(h);
        return w.hedges.size() - 1;
    }

    private int enter(Integer parent, int tone, int weight) {
        demand(w.motions.size() < 12, new IllegalStateException());
        remember(w.copy());
        w.enter(w.next, tone, weight, parent);
        return w.next++;
    }

    private void demandRange(int tone, int weight) {
        demand(tone >= 0 && tone <= 9 && weight >= 1 && weight <= 20, new IllegalArgumentException());
    }

    int propose(int tone, int weight) {
        demandRange(tone, weight);
        return enter(null, tone, weight);
    }

    int amend(int motion, int tone, int weight) {
        motion(motion);
        demandRange(tone, weight);
        return enter(motion, tone, weight);
    }

    int prune(int motion, int levels) {
        motion(motion);
        demand(levels >= 0 && levels <= 9, new IllegalArgumentException());
        remember(w.copy());
        int limit = depth(motion) + levels;
        List<Integer> gone = new ArrayList<>();
        for (int id : branch(motion)) {
            if (depth(id) > limit) {
                gone.add(id);
            }
        }
        w.motions.keySet().removeAll(gone);
        return gone.size();
    }

    int regrow(int motion) {
        Motion tip = motion(lastTip(motion));
        return enter(tip.id, (tip.tone + 1) % 10, tip.weight > 1 ? tip.weight / 2 : 1);
    }

    char vote(int motion) {
        Motion tip = motion(motion);
        demand(!w.hedges.isEmpty(), new IllegalStateException());
        demand(isTip(motion), new IllegalStateException());
        remember(w.copy());
        w.votes++;
        int favour = leavesInFavour(motion);
        int all = 0;
        boolean veto = false;
        for (int i = 0; i < w.hedges.size(); i++) {
            all += w.hedges.get(i).leaves;
            if (wouldVeto(i, motion)) {
                veto = true;
                w.hedges.get(i).thorns--;
            }
        }
        w.motions.remove(motion);
        if (veto) {
            return 'v';
        }
        if (favour <= all - favour) {
            return 'r';
        }
        w.carried++;
        if (tip.parent == null) {
            w.minutes[w.season]++;
            w.adopted += tip.weight;
        } else {
            w.motions.get(tip.parent).weight += tip.weight;
        }
        return 'c';
    }

    int passSeason() {
        remember(w.copy());
        w.season = (w.season + 1) % 4;
        for (Hedge h : w.hedges) {
            switch (w.season) {
                case 0: h.leaves += 4; h.thorns += h.thorns < 9 ? 1 : 0; break;
                case 1: h.leaves += 2; break;
                case 2: h.leaves -= 2; break;
                default: h.leaves -= 4;
            }
            h.leaves = h.leaves > 99 ? 99 : h.leaves < 1 ? 1 : h.leaves;
        }
        return w.season;
    }

    // ---- queries about hedges

    int hedgeCount() {
        return w.hedges.size();
    }

    private Hedge hedge(int index) {
        demand(index >= 0 && index < w.hedges.size(), new IndexOutOfBoundsException());
        return w.hedges.get(index);
    }

    int leaves(int hedge) {
        return hedge(hedge).leaves;
    }

    int thorns(int hedge) {
        return hedge(hedge).thorns;
    }

    int hedgeAtRank(int rank) {
        demand(rank >= 0 && rank < w.hedges.size(), new NoSuchElementException());
        List<Integer> order = new ArrayList<>();
        for (int i = 0; i < w.hedges.size(); i++) {
            order.add(i);
        }
        order.sort((a, b) -> {
            Hedge x = hedge(a);
            Hedge y = hedge(b);
            return x.leaves != y.leaves ? y.leaves - x.leaves
                    : x.thorns != y.thorns ? y.thorns - x.thorns : a - b;
        });
        return order.get(rank);
    }

    int leavesInFavour(int motion) {
        int tone = motion(motion).tone;
        return w.hedges.stream().filter(h -> h.taste - tone <= 3 && tone - h.taste <= 3)
                .mapToInt(h -> h.leaves).sum();
    }

    boolean wouldVeto(int hedge, int motion) {
        Hedge h = hedge(hedge);
        int tone = motion(motion).tone;
        return h.thorns > 0 && (h.taste >= tone + 7 || tone >= h.taste + 7);
    }

    // ---- queries about motions

    int motionCount() {
        return w.motions.size();
    }

    int motionAt(int position) {
        demand(position >= 0 && position < w.motions.size(), new IndexOutOfBoundsException());
        return new ArrayList<>(w.motions.keySet()).get(position);
    }

    int tone(int motion) {
        return motion(motion).tone;
    }

    int weight(int motion) {
        return motion(motion).weight;
    }

    int parent(int motion) {
        Integer parent = motion(motion).parent;
        demand(parent != null, new NoSuchElementException());
        return parent;
    }

    int depth(int motion) {
        Integer parent = motion(motion).parent;
        return parent == null ? 0 : depth(parent) + 1;
    }

    private List<Integer> amendments(int motion) {
        List<Integer> found = new ArrayList<>();
        for (Motion m : w.motions.values()) {
            if (m.parent != null && m.parent == motion) {
                found.add(m.id);
            }
        }
        return found;
    }

    private List<Integer> branch(int motion) {
        List<Integer> found = new ArrayList<>();
        found.add(motion);
        for (int amendment : amendments(motion)) {
            found.addAll(branch(amendment));
        }
        return found;
    }

    boolean isTip(int motion) {
        motion(motion);
        return amendments(motion).isEmpty();
    }

    int branchSize(int motion) {
        motion(motion);
        return branch(motion).size();
    }

    int lastTip(int motion) {
        motion(motion);
        return branch(motion).stream().filter(this::isTip).max(Integer::compare).orElseThrow();
    }

    int motionAtRank(int rank) {
        demand(rank >= 0 && rank < w.motions.size(), new IndexOutOfBoundsException());
        List<Integer> order = new ArrayList<>(w.motions.keySet());
        order.sort((a, b) -> weight(a) != weight(b) ? Integer.compare(weight(b), weight(a))
                : depth(a) != depth(b) ? depth(a) - depth(b) : a - b);
        return order.get(rank);
    }

    // ---- queries about trees

    int commonMotion(int one, int other) {
        motion(one);
        motion(other);
        int deepest = -1;
        for (int id : w.motions.keySet()) {
            List<Integer> branch = branch(id);
            if (branch.contains(one) && branch.contains(other)
                    && (deepest < 0 || depth(id) > depth(deepest))) {
                deepest = id;
            }
        }
        demand(deepest >= 0, new UnsupportedOperationException());
        return deepest;
    }

    /** The numbers of motions of the paths from one motion, breadth first. */
    private Map<Integer, Integer> paths(int from, List<Integer> within) {
        Map<Integer, Integer> sizes = new HashMap<>();
        ArrayDeque<Integer> queue = new ArrayDeque<>();
        sizes.put(from, 1);
        queue.add(from);
        while (!queue.isEmpty()) {
            int at = queue.remove();
            List<Integer> near = new ArrayList<>(amendments(at));
            if (motion(at).parent != null) {
                near.add(motion(at).parent);
            }
            for (int next : near) {
                if (within.contains(next) && !sizes.containsKey(next)) {
                    sizes.put(next, sizes.get(at) + 1);
                    queue.add(next);
                }
            }
        }
        return sizes;
    }

    int pathSize(int one, int other) {
        motion(one);
        motion(other);
        Integer size = paths(one, new ArrayList<>(w.motions.keySet())).get(other);
        demand(size != null, new UnsupportedOperationException());
        return size;
    }

    int longestPath(int motion) {
        motion(motion);
        List<Integer> branch = branch(motion);
        int longest = 0;
        for (int from : branch) {
            for (int size : paths(from, branch).values()) {
                longest = Math.max(longest, size);
            }
        }
        return longest;
    }

    /** The worths of all good sets, which an int may be too small for. */
    private List<Long> worths() {
        List<Motion> all = new ArrayList<>(w.motions.values());
        List<Long> worths = new ArrayList<>();
        collect(all, 0, new ArrayList<>(), 0, worths);
        return worths;
    }

    private void collect(List<Motion> all, int at, List<Integer> chosen, long worth,
            List<Long> worths) {
        if (at == all.size()) {
            worths.add(worth);
            return;
        }
        collect(all, at + 1, chosen, worth, worths);
        Motion m = all.get(at);
        if (m.parent == null || !chosen.contains(m.parent)) {
            chosen.add(m.id);
            collect(all, at + 1, chosen, worth + m.weight, worths);
            chosen.remove(chosen.size() - 1);
        }
    }

    int bestWorth() {
        return worths().stream().max(Long::compare).orElseThrow().intValue();
    }

    int goodSets() {
        return worths().size();
    }

    // ---- totals

    int season() {
        return w.season;
    }

    int minutesIn(int season) {
        demand(season >= 0 && season <= 3, new IllegalArgumentException());
        return w.minutes[season];
    }

    int adoptedWeight() {
        return w.adopted;
    }

    int weightTotal() {
        return w.motions.values().stream().mapToInt(m -> m.weight).sum();
    }

    double meanLeaves() {
        demand(!w.hedges.isEmpty(), new ArithmeticException());
        return (double) w.hedges.stream().mapToInt(h -> h.leaves).sum() / (double) w.hedges.size();
    }

    float carriedShare() {
        demand(w.votes > 0, new ArithmeticException());
        return (float) w.carried / (float) w.votes;
    }

    // ---- programs

    int append(char character) {
        demand(text.length() < 60, new IllegalStateException());
        text += character;
        return text.length();
    }

    int run() {
        String program = text;
        text = "";
        if (!PROGRAM.matcher(program).matches()) {
            error = errorOf(program);
            throw new IllegalArgumentException();
        }
        World before = w.copy();
        List<World> older = new ArrayList<>(past);
        String[] commands = program.split(";");
        for (int i = 0; i < commands.length; i++) {
            try {
                carryOut(commands[i].split(" "));
            } catch (RuntimeException e) {
                w = before;
                bringBack(older);
                failed = i;
                throw new UnsupportedOperationException();
            }
        }
        bringBack(older);
        remember(before);
        return commands.length;
    }

    private void bringBack(List<World> older) {
        past.clear();
        past.addAll(older);
    }

    private static int errorOf(String program) {
        for (int length = 1; length <= program.length(); length++) {
            Matcher matcher = PROGRAM.matcher(program.substring(0, length));
            if (!matcher.matches() && !matcher.hitEnd()) {
                return length - 1;
            }
        }
        return program.length();
    }

    private void carryOut(String[] words) {
        int[] n = new int[4];
        for (int i = 1; i < words.length; i++) {
            n[i] = Integer.parseInt(words[i]);
        }
        switch (words[0]) {
            case "hedge": addHedge(n[1], n[2], n[3]); break;
            case "main": propose(n[1], n[2]); break;
            case "amend": amend(n[1], n[2], n[3]); break;
            case "prune": prune(n[1], n[2]); break;
            case "regrow": regrow(n[1]); break;
            case "vote": vote(n[1]); break;
            default: passSeason();
        }
    }

    int errorPosition() {
        demand(error != null, new NoSuchElementException());
        return error;
    }

    int failedCommand() {
        demand(failed != null, new NoSuchElementException());
        return failed;
    }

    // ---- output

    int writeBranch(int motion) {
        motion(motion);
        line = lineOf(motion);
        return line.length();
    }

    private String lineOf(int motion) {
        Motion m = motion(motion);
        List<String> parts = new ArrayList<>();
        for (int amendment : amendments(motion)) {
            parts.add(lineOf(amendment));
        }
        return m.id + ":" + m.tone + "*" + m.weight
                + (parts.isEmpty() ? "" : "(" + String.join(",", parts) + ")");
    }

    char outputAt(int index) {
        demand(index >= 0 && index < line.length(), new IndexOutOfBoundsException());
        return line.charAt(index);
    }

    // ---- undo and snapshot

    int undo() {
        demand(!past.isEmpty(), new IllegalStateException());
        w = past.pop();
        return past.size();
    }

    int save() {
        saved = w.copy();
        return 0;
    }

    int restore() {
        demand(saved != null, new IllegalStateException());
        w = saved.copy();
        past.clear();
        return 0;
    }
}
