import java.lang.reflect.Field;

/**
 * The half of promise 40 that no run of calls can show: that isConsistent answers false where an
 * invariant does not hold. The invariants always hold, so they are broken from behind the face, in
 * the private fields. (The ways of finding the common motion can't be made to differ even so.)
 */
public final class InvariantTest {
    private InvariantTest() {
    }

    public static void main(String[] args) throws ReflectiveOperationException {
        promise40WeightsDisagree();
        promise40WorthsDisagree();
        promise40LongestPathsDisagree();
        Check.finish();
    }

    private static Object inside(Object owner, String name) throws ReflectiveOperationException {
        return field(owner, name).get(owner);
    }

    private static Field field(Object owner, String name) throws ReflectiveOperationException {
        Field field = owner.getClass().getDeclaredField(name);
        field.setAccessible(true);
        return field;
    }

    private static void promise40WeightsDisagree() throws ReflectiveOperationException {
        for (String account : new String[] {"begun", "pruned", "rejected", "vetoed", "adopted"}) {
            HedgeCommittee c = Makers.midway();
            Object state = inside(c, "state");
            Field weights = field(state, account);
            Check.equal("40 before " + account, c.isConsistent(), true);
            weights.setInt(state, weights.getInt(state) + 1);
            Check.equal("40 with 1 too much " + account, c.isConsistent(), false);
            weights.setInt(state, weights.getInt(state) - 1);
            Check.equal("40 after " + account, c.isConsistent(), true);
        }
    }

    /** Two main motions, of which the first is made an amendment of the second one. */
    private static HedgeCommittee withParentBehind(int weight, int weightOfParent)
            throws ReflectiveOperationException {
        HedgeCommittee c = Makers.fresh();
        c.propose(0, weight);
        c.propose(0, weightOfParent);
        Check.equal("40 of two main motions", c.isConsistent(), true);
        int[] parents = (int[]) inside(inside(inside(c, "state"), "motions"), "parents");
        parents[0] = 1;
        return c;
    }

    private static void promise40WorthsDisagree() throws ReflectiveOperationException {
        HedgeCommittee c = withParentBehind(5, 3);
        Check.equal("30 the worths do not agree", c.bestWorth() == c.bestWorthBySets(), false);
        Check.equal("40 of worths that differ", c.isConsistent(), false);
    }

    private static void promise40LongestPathsDisagree() throws ReflectiveOperationException {
        HedgeCommittee c = withParentBehind(3, 5);
        Check.equal("30 the worths agree", c.bestWorth(), c.bestWorthBySets());
        Check.equal("36 the weights agree", c.weightTotal(), c.weightByAccounts());
        Check.equal("28 the paths do not", c.longestPath(0) == c.longestPathBySweeps(0), false);
        Check.equal("40 of paths that differ", c.isConsistent(), false);
    }
}
