/** Promises 19 to 23: candidates, and what choices of them cost. */
public final class CandidatesTest {
    private static final Checks checks = new Checks();

    public static void main(String[] args) {
        candidates();
        conflicts();
        mostCandidates();
        holders();
        costOf();
        manyToTry();
        checks.end();
    }

    private static void is(RoleMiner x, String what, int... sets) {
        checks.same(what + ": candidates()", x.candidates(), sets.length);
        for (int k = 0; k < sets.length && k < x.candidates(); k++) {
            checks.same(what + ": candidate(" + k + ")", x.candidate(k), sets[k]);
        }
        for (int k : new int[] {-1, sets.length, Integer.MIN_VALUE, Integer.MAX_VALUE}) {
            checks.outside("20: " + what + ": candidate(" + k + ")", () -> x.candidate(k));
        }
    }

    private static void candidates() {
        RoleMiner x = new RoleMiner();
        is(x, "no grants");
        x.setGrants(5, 6);
        checks.same("20: by the grants of now", x.candidate(0), 6);
        is(x, "one user", 6);
        x.setGrants(0, 3);
        is(x, "two users, whose sets cross", 2, 3, 6);
        x.setGrants(1, 3);
        is(x, "a set twice counts once", 2, 3, 6);
        x.setSupport(2);
        is(x, "with two holders", 2, 3);
        x.setSupport(3);
        is(x, "with three holders", 2);
        x.setSupport(4);
        is(x, "with four holders");
        x.setSupport(1);
        x.setGrants(7, 2048);
        is(x, "what nobody shares is no candidate", 2, 3, 6, 2048);
        x.setGrants(7, 4095);
        is(x, "all permissions", 2, 3, 6, 4095);
    }

    private static void conflicts() {
        RoleMiner x = new RoleMiner();
        x.setGrants(0, 7);
        x.setGrants(1, 14);
        x.setConflict(0, 1, true);
        is(x, "a set that is not proper", 6, 14);
        x.setConflict(1, 2, true);
        is(x, "none is proper");
        x.setConflict(0, 1, false);
        x.setConflict(2, 1, false);
        is(x, "all are proper again", 6, 7, 14);
        x.setConflict(0, 3, true);
        is(x, "a conflict that no set has", 6, 7, 14);
    }

    private static void mostCandidates() {
        RoleMiner x = new RoleMiner();
        for (int user = 0; user < 8; user++) {
            x.setGrants(user, 4095 & ~(1 << user));
        }
        checks.same("19: each set of users shares another set", x.candidates(), 255);
        checks.same("20: the first", x.candidate(0), 0xF00);
        checks.same("20: the second", x.candidate(1), 0xF01);
        checks.same("20: the last", x.candidate(254), 0xFFE);
        checks.outside("20: no more", () -> x.candidate(255));
        x.setSupport(4);
        checks.same("19: shared by four or more", x.candidates(), 163);
    }

    private static void holders() {
        RoleMiner x = new RoleMiner();
        checks.same("21: the empty set", x.holders(0), 255);
        checks.same("21: nothing granted", x.holders(1), 0);
        x.setGrants(0, 3);
        x.setGrants(3, 7);
        x.setGrants(7, 4095);
        checks.same("21: holders(1)", x.holders(1), 137);
        checks.same("21: holders(5)", x.holders(5), 136);
        checks.same("21: holders(4095)", x.holders(4095), 128);
        x.setConflict(0, 1, true);
        x.setSupport(8);
        checks.same("21: no candidate", x.holders(3), 137);
        for (int set : new int[] {-1, 4096, Integer.MIN_VALUE, Integer.MAX_VALUE}) {
            checks.fails("21: holders " + set, IllegalArgumentException.class, () -> x.holders(set));
        }
    }

    private static void costOf() {
        RoleMiner x = new RoleMiner();
        checks.same("22: the empty choice of none", x.costOf(0), 0);
        checks.same("23: nothing to cover", x.leastCost(), 0);
        checks.fails("22: no candidate 0", IllegalArgumentException.class, () -> x.costOf(1));
        x.setGrants(0, 3);
        x.setGrants(4, 6);
        x.setGrants(7, 3);
        is(x, "costOf", 2, 3, 6);
        checks.same("22: costOf(0)", x.costOf(0), 12);
        checks.same("22: costOf(1)", x.costOf(1), 11);
        checks.same("22: costOf(2)", x.costOf(2), 9);
        checks.same("22: costOf(3)", x.costOf(3), 12);
        checks.same("22: costOf(4)", x.costOf(4), 13);
        checks.same("22: costOf(6)", x.costOf(6), 10);
        checks.same("22: costOf(7)", x.costOf(7), 15);
        checks.same("23: leastCost()", x.leastCost(), 9);
        x.setGrants(4, 0);
        checks.same("22: by the grants of now", x.costOf(1), 5);
        x.setGrants(7, 0);
        checks.same("23: by the grants of now", x.leastCost(), 4);
        x.setGrants(7, 3);
        x.setGrants(4, 6);
        is(x, "costOf again", 2, 3, 6);
        x.setCosts(0, 100);
        checks.same("22: roles for nothing", x.costOf(6), 0);
        checks.same("23: roles for nothing", x.leastCost(), 0);
        x.setCosts(100, 1);
        checks.same("23: no role pays", x.leastCost(), 6);
        checks.same("22: costs lay no roles", x.roles(), 0);
        for (int choice : new int[] {-1, 8, 9, 16384, Integer.MIN_VALUE, Integer.MAX_VALUE}) {
            checks.fails("22: costOf " + choice, IllegalArgumentException.class, () -> x.costOf(choice));
        }
    }

    private static void manyToTry() {
        RoleMiner x = Made.fourteenCandidates();
        checks.same("19: fourteen", x.candidates(), 14);
        checks.same("22: none of fourteen", x.costOf(0), 36);
        checks.same("22: all of fourteen", x.costOf(16383), 70);
        checks.same("22: the last of fourteen", x.costOf(8192), 35);
        // In each group two roles that two users share cover seven of nine grants.
        checks.same("23: of fourteen", x.leastCost(), 28);
        checks.fails("22: no candidate 14", IllegalArgumentException.class, () -> x.costOf(16384));
        checks.fails("22: below 0", IllegalArgumentException.class, () -> x.costOf(-1));
        x.grant(6, 11);
        checks.same("19: fifteen", x.candidates(), 15);
        for (int choice : new int[] {0, 1, -1, 32768}) {
            checks.fails("22: too many, costOf " + choice, IllegalStateException.class, () -> x.costOf(choice));
        }
        checks.fails("23: too many", IllegalStateException.class, x::leastCost);
        x.setSupport(2);
        checks.same("23: fewer by the support", x.leastCost(), 30);
    }
}
