/** Promises 24 to 30: the roles that are laid. */
public final class RolesTest {
    private static final Checks checks = new Checks();

    public static void main(String[] args) {
        none();
        roles();
        laterChanges();
        risky();
        riskyByItself();
        wrongInputs();
        checks.end();
    }

    private static void none() {
        RoleMiner x = new RoleMiner();
        x.setGrants(0, 3);
        checks.same("24: none at first", x.roles(), 0);
        checks.same("26: rolesOf(0)", x.rolesOf(0), 0);
        checks.same("27: byRoles(0)", x.byRoles(0), 0);
        checks.same("28: exceptions(0)", x.exceptions(0), 3);
        checks.same("29: cost()", x.cost(), 4);
    }

    /** Lays the roles 3 and 12; user 7 has both. */
    private static RoleMiner twoRoles() {
        RoleMiner x = new RoleMiner();
        x.setCosts(2, 3);
        x.setGrants(0, 3);
        x.setGrants(1, 12);
        x.setGrants(7, 15);
        x.mineBest();
        return x;
    }

    private static void roles() {
        RoleMiner x = twoRoles();
        checks.same("24: roles()", x.roles(), 2);
        checks.same("25: role(0)", x.role(0), 3);
        checks.same("25: role(1)", x.role(1), 12);
        checks.same("26: rolesOf(0)", x.rolesOf(0), 1);
        checks.same("26: rolesOf(7)", x.rolesOf(7), 2);
        checks.same("26: rolesOf(2)", x.rolesOf(2), 0);
        checks.same("27: byRoles(1)", x.byRoles(1), 12);
        checks.same("27: byRoles(7)", x.byRoles(7), 15);
        checks.same("28: exceptions(7)", x.exceptions(7), 0);
        checks.same("29: cost()", x.cost(), 4);
    }

    private static void laterChanges() {
        RoleMiner x = twoRoles();
        x.setGrants(2, 19);
        checks.same("26: a user has a role by the grants of now", x.rolesOf(2), 1);
        checks.same("27: byRoles(2)", x.byRoles(2), 3);
        checks.same("28: exceptions(2)", x.exceptions(2), 16);
        checks.same("29: an exception more", x.cost(), 7);
        x.revoke(7, 3);
        checks.same("26: a role less", x.rolesOf(7), 1);
        checks.same("27: byRoles(7)", x.byRoles(7), 3);
        checks.same("28: the rest of a role", x.exceptions(7), 4);
        checks.same("29: two exceptions", x.cost(), 10);
        x.setCosts(10, 1);
        checks.same("29: by the settings of now", x.cost(), 22);
        x.setGrants(0, 0);
        x.setGrants(1, 0);
        x.setGrants(2, 0);
        x.setGrants(7, 0);
        x.setConflict(0, 1, true);
        x.setSupport(8);
        checks.same("24: the roles stay", x.roles(), 2);
        checks.same("25: as they were", x.role(0) + x.role(1), 15);
        checks.same("29: roles that nobody has", x.cost(), 20);
        RoleMiner y = twoRoles();
        for (int quarter = 0; quarter < 4; quarter++) {
            y.nextQuarter();
        }
        checks.same("24: roles do not lapse", y.roles(), 2);
        checks.same("26: but grants do", y.rolesOf(7), 0);
    }

    private static void risky() {
        RoleMiner x = twoRoles();
        checks.same("30: no conflicts", x.isRisky(0), false);
        x.setConflict(0, 4, true);
        checks.same("30: a conflict with another permission", x.isRisky(0), false);
        x.setConflict(3, 0, true);
        checks.same("30: isRisky(0)", x.isRisky(0), true);
        checks.same("30: isRisky(1)", x.isRisky(1), true);
        x.revoke(7, 1);
        checks.same("30: nobody has both", x.isRisky(0), false);
        checks.same("30: nor from the other end", x.isRisky(1), false);
        x.grant(6, 0);
        x.grant(6, 1);
        x.setGrants(6, 31);
        checks.same("30: another user has both", x.isRisky(1), true);
        x.setConflict(3, 0, false);
        checks.same("30: the conflict has ended", x.isRisky(1), false);
    }

    private static void riskyByItself() {
        RoleMiner x = twoRoles();
        x.setConflict(0, 1, true);
        checks.same("30: not proper by itself, with another one", x.isRisky(0), true);
        checks.same("30: nor is the other one then", x.isRisky(1), true);
        x.setGrants(7, 3);
        checks.same("30: not proper by itself, alone", x.isRisky(0), false);
        checks.same("30: the other one", x.isRisky(1), false);
        x.mineGreedily();
        checks.same("30: one role that is proper", x.roles(), 1);
        checks.same("30: has no other one", x.isRisky(0), false);
    }

    private static void wrongInputs() {
        RoleMiner x = twoRoles();
        for (int user : new int[] {-1, 8, Integer.MIN_VALUE, Integer.MAX_VALUE}) {
            checks.outside("26: rolesOf, user " + user, () -> x.rolesOf(user));
            checks.outside("27: byRoles, user " + user, () -> x.byRoles(user));
            checks.outside("28: exceptions, user " + user, () -> x.exceptions(user));
        }
        for (int k : new int[] {-1, 2, 255, Integer.MIN_VALUE, Integer.MAX_VALUE}) {
            checks.outside("25: role " + k, () -> x.role(k));
            checks.outside("30: isRisky " + k, () -> x.isRisky(k));
        }
        x.dropRoles();
        checks.outside("25: no roles any more", () -> x.role(0));
        checks.outside("30: no roles any more", () -> x.isRisky(0));
    }
}
