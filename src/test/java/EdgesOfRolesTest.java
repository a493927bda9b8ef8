/** The edges that the document names for the roles that are laid: promises 24 to 30. */
public final class EdgesOfRolesTest {
    private static final Checks checks = new Checks();

    public static void main(String[] args) {
        noRole();
        oneRole();
        twelveRoles();
        risingWhateverTheOrder();
        byTheGrantsOfNow();
        theWholeOfARole();
        rolesThatNobodyHas();
        rolesStay();
        edgesOfCost();
        riskyNeedsAnother();
        riskyAtTheEdges();
        riskyNeedsOneUser();
        riskyByItself();
        riskyBySharedPermission();
        riskyOfTwelve();
        wrongUsers();
        checks.end();
    }

    private static void noPlaces(RoleMiner x, int roles) {
        for (int k : Beyond.places(roles)) {
            checks.outside("25: role(" + k + ") of " + roles, () -> x.role(k));
            checks.outside("30: isRisky(" + k + ") of " + roles, () -> x.isRisky(k));
        }
    }

    private static void user(RoleMiner x, int user, String what, int roles, int byRoles, int exceptions) {
        checks.same("26: " + what + ", rolesOf(" + user + ")", x.rolesOf(user), roles);
        checks.same("27: " + what + ", byRoles(" + user + ")", x.byRoles(user), byRoles);
        checks.same("28: " + what + ", exceptions(" + user + ")", x.exceptions(user), exceptions);
    }

    /** "none at first" */
    private static void noRole() {
        RoleMiner x = new RoleMiner();
        checks.same("24: at first", x.roles(), 0);
        noPlaces(x, 0);
        checks.same("29: neither grants nor roles", x.cost(), 0);
        x.setGrants(0, 4095);
        x.setGrants(7, 1);
        user(x, 0, "no roles", 0, 0, 4095);
        user(x, 1, "no roles", 0, 0, 0);
        user(x, 7, "no roles", 0, 0, 1);
        checks.same("29: exceptions alone", x.cost(), 26);
        checks.same("24: none by grants", x.roles(), 0);
    }

    private static void oneRole() {
        RoleMiner x = Made.allGranted();
        x.mineBest();
        checks.same("24: one", x.roles(), 1);
        checks.same("25: of all permissions", x.role(0), 4095);
        noPlaces(x, 1);
        user(x, 0, "a role of all", 1, 4095, 0);
        user(x, 7, "a role of all", 1, 4095, 0);
        checks.same("29: the role alone", x.cost(), 5);
        x.revoke(7, 11);
        user(x, 7, "one permission too few", 0, 0, 2047);
        checks.same("29: and eleven exceptions", x.cost(), 27);
    }

    private static void twelveRoles() {
        RoleMiner x = Made.twelveRolesNeeded();
        x.setCosts(1, 1);
        x.mineBest();
        checks.same("24: twelve", x.roles(), 12);
        for (int k = 0; k < 12; k++) {
            checks.same("25: role(" + k + ") of twelve", x.role(k), 1 << k);
        }
        noPlaces(x, 12);
        user(x, 0, "twelve roles", 3, 385, 0);
        x.setGrants(7, 4095);
        user(x, 7, "all of twelve roles", 12, 4095, 0);
        x.setGrants(7, 0);
        user(x, 7, "none of twelve roles", 0, 0, 0);
        x.setGrants(7, 2048);
        user(x, 7, "the last of twelve roles", 1, 2048, 0);
        x.setGrants(0, 1);
        user(x, 0, "the first of twelve roles", 1, 1, 0);
    }

    /** "by rising numbers", also where greedy mining chose another order. */
    private static void risingWhateverTheOrder() {
        RoleMiner x = new RoleMiner();
        x.setCosts(1, 2);
        x.setGrants(0, 1);
        x.setGrants(1, 6);
        x.setGrants(2, 56);
        x.setGrants(7, 4032);
        checks.same("11: chosen from the highest on", x.mineGreedily(), 4);
        int[] sets = {1, 6, 56, 4032};
        for (int k = 0; k < 4; k++) {
            checks.same("25: the lowest first, role(" + k + ")", x.role(k), sets[k]);
        }
        noPlaces(x, 4);
    }

    /** Lays the roles 3 and 3072, which the users 0 and 7 need; a role costs 1, an exception 3. */
    private static RoleMiner twoRoles() {
        RoleMiner x = new RoleMiner();
        x.setCosts(1, 3);
        x.setGrants(0, 3);
        x.setGrants(7, 3072);
        x.mineBest();
        return x;
    }

    /** "A user has a role if the user holds its set by the grants of now" */
    private static void byTheGrantsOfNow() {
        RoleMiner x = twoRoles();
        x.setGrants(3, 4095);
        user(x, 3, "granted later", 2, 3075, 1020);
        x.setGrants(0, 3072);
        user(x, 0, "another role than at first", 1, 3072, 0);
        x.setGrants(7, 3075);
        user(x, 7, "both roles", 2, 3075, 0);
        x.setPeriod(1);
        x.nextQuarter();
        user(x, 7, "all lapsed", 0, 0, 0);
        checks.same("24: the roles do not lapse", x.roles(), 2);
        checks.same("29: the roles alone", x.cost(), 2);
    }

    /** Of a role of two permissions: both, the lower, the higher, none. */
    private static void theWholeOfARole() {
        RoleMiner x = twoRoles();
        user(x, 0, "both", 1, 3, 0);
        x.setGrants(0, 1);
        user(x, 0, "the lower", 0, 0, 1);
        x.setGrants(0, 2);
        user(x, 0, "the higher", 0, 0, 2);
        x.setGrants(0, 1025);
        user(x, 0, "one of each role", 0, 0, 1025);
        x.setGrants(0, 0);
        user(x, 0, "none", 0, 0, 0);
        x.setGrants(0, 7);
        user(x, 0, "more than both", 1, 3, 4);
    }

    private static void rolesThatNobodyHas() {
        RoleMiner x = twoRoles();
        x.setGrants(0, 0);
        x.setGrants(7, 0);
        checks.same("24: roles() without grants", x.roles(), 2);
        checks.same("25: role(1) without grants", x.role(1), 3072);
        checks.same("29: each role costs all the same", x.cost(), 2);
        checks.same("30: isRisky(1) without grants", x.isRisky(1), false);
        checks.same("19: no candidate", x.candidates(), 0);
    }

    /** "stay as they are when grants, conflicts or settings change later" */
    private static void rolesStay() {
        RoleMiner x = twoRoles();
        x.setConflict(0, 1, true);
        x.setConflict(10, 11, true);
        x.setSupport(8);
        x.setCosts(100, 100);
        x.setPeriod(1);
        x.setGrants(0, 2049);
        x.revoke(7, 10);
        x.nextQuarter();
        checks.same("24: two still", x.roles(), 2);
        checks.same("25: the first as it was", x.role(0), 3);
        checks.same("25: the second as it was", x.role(1), 3072);
        noPlaces(x, 2);
        checks.same("13: two to drop", x.dropRoles(), 2);
        noPlaces(x, 0);
    }

    /** "by the settings and grants of now", from the lowest costs to the highest. */
    private static void edgesOfCost() {
        RoleMiner x = Made.twelveRolesNeeded();
        x.setCosts(1, 1);
        x.mineBest();
        x.setCosts(100, 100);
        checks.same("29: twelve roles, no exception", x.cost(), 1200);
        for (int user = 0; user < 8; user++) {
            x.setGrants(user, 0);
        }
        checks.same("29: twelve roles, no grant", x.cost(), 1200);
        for (int user = 0; user < 8; user++) {
            x.setGrants(user, 4095);
        }
        checks.same("29: twelve roles, all granted", x.cost(), 1200);
        x.dropRoles();
        checks.same("29: all are exceptions", x.cost(), 9600);
        x.setCosts(100, 0);
        checks.same("29: exceptions for nothing", x.cost(), 0);
        RoleMiner y = Made.allGranted();
        y.mineBest();
        for (int user = 0; user < 8; user++) {
            y.revoke(user, user);
        }
        y.setCosts(0, 100);
        checks.same("29: a role for nothing", y.cost(), 8800);
        y.setCosts(100, 100);
        checks.same("29: one role and 88 exceptions", y.cost(), 8900);
        y.setCosts(0, 0);
        checks.same("29: all for nothing", y.cost(), 0);
    }

    /** "some user has a role and another one": a single role is never risky. */
    private static void riskyNeedsAnother() {
        RoleMiner x = Made.allGranted();
        x.mineBest();
        Made.allConflicts(x, true);
        checks.same("30: one role, all in conflict", x.isRisky(0), false);
        noPlaces(x, 1);
    }

    /** The users 0 and 7, the lowest and the highest permission. */
    private static void riskyAtTheEdges() {
        for (int user : new int[] {0, 7}) {
            RoleMiner x = twoRoles();
            x.setGrants(user, 3075);
            checks.same("30: no conflict, user " + user, x.isRisky(0) || x.isRisky(1), false);
            x.setConflict(0, 9, true);
            x.setConflict(2, 11, true);
            checks.same("30: with others, user " + user, x.isRisky(0) || x.isRisky(1), false);
            x.setConflict(0, 11, true);
            checks.same("30: the farthest, user " + user, x.isRisky(0) && x.isRisky(1), true);
            x.setConflict(11, 0, false);
            checks.same("30: no more, user " + user, x.isRisky(0) || x.isRisky(1), false);
            x.setConflict(10, 1, true);
            checks.same("30: the nearest, user " + user, x.isRisky(0) && x.isRisky(1), true);
            x.revoke(user, user == 0 ? 11 : 0);
            checks.same("30: one role left, user " + user, x.isRisky(0) || x.isRisky(1), false);
        }
    }

    /** "some user has a role and another one at the same time" */
    private static void riskyNeedsOneUser() {
        RoleMiner x = twoRoles();
        x.setConflict(0, 11, true);
        checks.same("30: two users, a role each", x.isRisky(0) || x.isRisky(1), false);
        x.setGrants(3, 3074);
        checks.same("30: one not wholly", x.isRisky(0) || x.isRisky(1), false);
        x.grant(3, 0);
        checks.same("30: both wholly", x.isRisky(0) && x.isRisky(1), true);
        x.setGrants(0, 0);
        x.setGrants(7, 0);
        checks.same("30: no other user", x.isRisky(0) && x.isRisky(1), true);
        x.dropRoles();
        noPlaces(x, 0);
    }

    /** "a role that is not proper by itself needs another one, too" */
    private static void riskyByItself() {
        RoleMiner x = twoRoles();
        x.setConflict(0, 1, true);
        checks.same("30: not proper by itself", x.isRisky(0), false);
        checks.same("30: the proper one", x.isRisky(1), false);
        x.setGrants(5, 3);
        checks.same("30: not proper, of two users", x.isRisky(0), false);
        x.setGrants(5, 3075);
        checks.same("30: not proper, and another one", x.isRisky(0), true);
        checks.same("30: the other one with it", x.isRisky(1), true);
        x.setConflict(0, 1, false);
        checks.same("30: proper again", x.isRisky(0) || x.isRisky(1), false);
    }

    /** "the permissions of both together", those that both have among them */
    private static void riskyBySharedPermission() {
        RoleMiner x = new RoleMiner();
        x.setCosts(1, 3);
        x.setGrants(0, 2049);
        x.setGrants(7, 2050);
        x.setGrants(3, 2048);
        x.mineBest();
        checks.same("24: 2048, 2049 and 2050", x.roles(), 3);
        checks.same("30: each with another one, all proper", x.isRisky(0) || x.isRisky(1) || x.isRisky(2), false);
        x.setConflict(11, 0, true);
        checks.same("30: what both have and what one has", x.isRisky(0) && x.isRisky(1), true);
        checks.same("30: no user has the third with it", x.isRisky(2), false);
        x.setGrants(7, 2051);
        checks.same("30: all three", x.isRisky(0) && x.isRisky(1) && x.isRisky(2), true);
    }

    private static void riskyOfTwelve() {
        RoleMiner x = Made.twelveRolesNeeded();
        x.setCosts(1, 1);
        x.mineBest();
        for (int k = 0; k < 12; k++) {
            checks.same("30: all in conflict, isRisky(" + k + ")", x.isRisky(k), true);
        }
        Made.allConflicts(x, false);
        x.setConflict(0, 11, true);
        x.setGrants(7, 4095);
        for (int k = 0; k < 12; k++) {
            checks.same("30: the first and the last, isRisky(" + k + ")", x.isRisky(k), k == 0 || k == 11);
        }
    }

    private static void wrongUsers() {
        RoleMiner x = twoRoles();
        for (int user : Beyond.USERS) {
            checks.outside("26: rolesOf(" + user + ")", () -> x.rolesOf(user));
            checks.outside("27: byRoles(" + user + ")", () -> x.byRoles(user));
            checks.outside("28: exceptions(" + user + ")", () -> x.exceptions(user));
        }
    }
}
