/** Promises 11 to 13: mining lays the roles. */
public final class MiningTest {
    private static final Checks checks = new Checks();

    public static void main(String[] args) {
        greedyIsNotBest();
        greedyTies();
        greedyWithMany();
        bestTies();
        bestPrefersFewer();
        tooManyForBest();
        support();
        dropRoles();
        checks.end();
    }

    private static void laid(RoleMiner x, String what, int... sets) {
        checks.same(what + ": roles()", x.roles(), sets.length);
        for (int k = 0; k < sets.length && k < x.roles(); k++) {
            checks.same(what + ": role(" + k + ")", x.role(k), sets[k]);
        }
    }

    /** The sets 1 and 2 cover all for 2, but 3 saves most at first. */
    private static void greedyIsNotBest() {
        RoleMiner x = new RoleMiner();
        x.setCosts(1, 1);
        x.setGrants(0, 1);
        x.setGrants(1, 2);
        x.setGrants(2, 3);
        x.setGrants(3, 3);
        checks.same("11: mineGreedily()", x.mineGreedily(), 3);
        laid(x, "11: greedily", 3);
        checks.same("12: mineBest()", x.mineBest(), 2);
        laid(x, "12: best", 1, 2);
        checks.same("11: the old roles go", x.mineGreedily(), 3);
        laid(x, "11: greedily again", 3);
    }

    private static void greedyTies() {
        RoleMiner x = new RoleMiner();
        x.setGrants(0, 3);
        x.setGrants(1, 6);
        // Of the candidates 2, 3 and 6 each covers two grants, and saves one by these costs.
        x.setCosts(3, 2);
        checks.same("11: of several the lowest", x.mineGreedily(), 7);
        laid(x, "11: of several the lowest", 2);
        x.setCosts(4, 2);
        checks.same("11: not less", x.mineGreedily(), 8);
        laid(x, "11: not less");
        x.setCosts(0, 0);
        checks.same("11: all for nothing", x.mineGreedily(), 0);
        laid(x, "11: all for nothing");
        x.setCosts(0, 1);
        checks.same("11: until all is covered", x.mineGreedily(), 0);
        laid(x, "11: until all is covered", 2, 3, 6);
        // The first candidate chosen is 28, not the lowest: roles are told by rising numbers all the same.
        x.setGrants(0, 3);
        x.setGrants(1, 28);
        x.setCosts(1, 1);
        checks.same("11: most first", x.mineGreedily(), 2);
        laid(x, "11: by rising numbers", 3, 28);
    }

    private static void greedyWithMany() {
        RoleMiner x = new RoleMiner();
        for (int user = 0; user < 8; user++) {
            x.setGrants(user, 4095 & ~(1 << user));
        }
        // The lowest set of those that six users share covers most, 36 grants; the plain model told the rest.
        checks.same("11: with 255 candidates", x.mineGreedily(), 29);
        checks.same("11: the cost is that of the roles", x.cost(), 29);
        laid(x, "11: with 255 candidates", 3843, 3900, 3929, 4002, 4036);
        x.setCosts(0, 100);
        checks.same("11: all covered", x.mineGreedily(), 0);
        for (int user = 0; user < 8; user++) {
            checks.same("11: exceptions(" + user + ")", x.exceptions(user), 0);
        }
    }

    private static void bestTies() {
        RoleMiner x = new RoleMiner();
        x.setGrants(0, 14);
        x.setGrants(1, 13);
        x.setGrants(2, 11);
        x.setCosts(7, 2);
        // 9, 10 and 12 cover four grants each, and no second role saves its cost.
        checks.same("12: of equally many the first", x.mineBest(), 17);
        laid(x, "12: of equally many the first", 9);
        x.setCosts(5, 2);
        // 9 and 10, 9 and 12, 10 and 12, and others cover seven grants.
        checks.same("12: of pairs the first", x.mineBest(), 14);
        laid(x, "12: of pairs the first", 9, 10);
        RoleMiner y = new RoleMiner();
        y.setGrants(0, 2);
        y.setGrants(1, 6);
        y.setGrants(2, 15);
        y.setGrants(3, 8);
        y.setCosts(1, 1);
        // 2 and 15, 6 and 8, 6 and 15 leave two exceptions each: the lowest ones are compared first.
        checks.same("12: compared by the lowest", y.mineBest(), 4);
        laid(y, "12: compared by the lowest", 2, 15);
    }

    private static void bestPrefersFewer() {
        RoleMiner x = new RoleMiner();
        x.setGrants(0, 3);
        x.setCosts(2, 1);
        checks.same("12: a role that saves nothing", x.mineBest(), 2);
        laid(x, "12: a role that saves nothing");
        x.setCosts(0, 1);
        x.setGrants(1, 1);
        checks.same("12: two for nothing", x.mineBest(), 0);
        laid(x, "12: two are needed", 1, 3);
        x.setGrants(2, 2);
        checks.same("12: three for nothing", x.mineBest(), 0);
        // 1 and 2 cover user 0 as well, so 3 is not needed.
        laid(x, "12: the fewest of many for nothing", 1, 2);
        x.setCosts(0, 0);
        checks.same("12: all for nothing", x.mineBest(), 0);
        laid(x, "12: all for nothing");
    }

    private static void tooManyForBest() {
        RoleMiner x = Made.fourteenCandidates();
        checks.same("12: of fourteen", x.mineBest(), 28);
        laid(x, "12: of fourteen", 9, 10, 144, 160);
        x.grant(6, 11);
        checks.fails("12: of fifteen", IllegalStateException.class, x::mineBest);
        laid(x, "12: nothing laid by that", 9, 10, 144, 160);
        checks.same("11: greedily of fifteen", x.mineGreedily(), 30);
        laid(x, "11: greedily of fifteen", 9, 10, 144, 160);
    }

    private static void support() {
        RoleMiner x = new RoleMiner();
        x.setGrants(0, 127);
        x.setGrants(1, 124);
        checks.same("12: a role for both, and exceptions", x.mineBest(), 9);
        laid(x, "12: a role for both", 124);
        x.setSupport(2);
        x.setCosts(0, 1);
        checks.same("12: no role of one holder", x.mineBest(), 2);
        laid(x, "12: no role of one holder", 124);
        x.setConflict(2, 6, true);
        checks.same("11: no role with a conflict", x.mineGreedily(), 12);
        laid(x, "11: no role with a conflict");
    }

    private static void dropRoles() {
        RoleMiner x = new RoleMiner();
        checks.same("13: none to drop", x.dropRoles(), 0);
        x.setCosts(0, 1);
        x.setGrants(0, 1);
        x.setGrants(1, 2);
        x.mineBest();
        checks.same("13: dropRoles()", x.dropRoles(), 2);
        laid(x, "13: dropped");
        checks.same("13: again", x.dropRoles(), 0);
        checks.same("13: the grants stay", x.grants(), 2);
        checks.same("13: all are exceptions", x.cost(), 2);
    }
}
