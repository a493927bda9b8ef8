/** Promises 1 to 5 and 14 to 16: a new object, grants and conflicts. */
public final class GrantsTest {
    private static final Checks checks = new Checks();

    public static void main(String[] args) {
        newObject();
        grant();
        revoke();
        setGrants();
        setConflict();
        violations();
        wrongInputs();
        checks.end();
    }

    private static void newObject() {
        RoleMiner x = new RoleMiner();
        checks.same("1: grants()", x.grants(), 0);
        checks.same("1: roles()", x.roles(), 0);
        checks.same("1: quarter()", x.quarter(), 0);
        checks.same("1: candidates()", x.candidates(), 0);
        checks.same("1: cost()", x.cost(), 0);
        for (int user = 0; user < 8; user++) {
            checks.same("1: permissions(" + user + ")", x.permissions(user), 0);
            x.setGrants(user, 4095);
            checks.same("1: no conflicts for " + user, x.violations(user), 0);
        }
        checks.same("1: another object is apart", new RoleMiner().grants(), 0);
    }

    private static void grant() {
        RoleMiner x = new RoleMiner();
        checks.same("2: grant(0, 0)", x.grant(0, 0), true);
        checks.same("2: grant(0, 0) again", x.grant(0, 0), false);
        checks.same("2: grant(7, 11)", x.grant(7, 11), true);
        checks.same("2: grant(0, 11)", x.grant(0, 11), true);
        checks.same("14: permissions(0)", x.permissions(0), 2049);
        checks.same("14: permissions(7)", x.permissions(7), 2048);
        checks.same("14: permissions(1)", x.permissions(1), 0);
        checks.same("15: grants()", x.grants(), 3);
        x.nextQuarter();
        checks.same("2: granted already", x.grant(0, 0), false);
        checks.same("2: its quarter stays", x.review(0, 0), 1);
    }

    private static void revoke() {
        RoleMiner x = new RoleMiner();
        x.grant(3, 4);
        x.grant(3, 5);
        checks.same("3: revoke(3, 4)", x.revoke(3, 4), true);
        checks.same("3: revoke(3, 4) again", x.revoke(3, 4), false);
        checks.same("3: revoke(4, 5)", x.revoke(4, 5), false);
        checks.same("3: permissions(3)", x.permissions(3), 32);
        checks.same("3: grants()", x.grants(), 1);
        x.nextQuarter();
        x.grant(3, 4);
        checks.same("3: granted anew", x.review(3, 4), 0);
    }

    private static void setGrants() {
        RoleMiner x = new RoleMiner();
        checks.same("4: setGrants(2, 7)", x.setGrants(2, 7), 3);
        x.nextQuarter();
        checks.same("4: setGrants(2, 14)", x.setGrants(2, 14), 2);
        checks.same("4: permissions(2)", x.permissions(2), 14);
        checks.same("4: the same again", x.setGrants(2, 14), 0);
        x.nextQuarter();
        checks.same("4: what stays keeps its quarter", x.review(2, 1), 2);
        checks.same("4: what is new has the quarter of then", x.review(2, 3), 1);
        checks.same("4: setGrants(2, 0)", x.setGrants(2, 0), 3);
        checks.same("4: setGrants(2, 4095)", x.setGrants(2, 4095), 12);
        checks.same("4: granted anew", x.review(2, 1), 0);
        checks.same("15: all grants", x.grants(), 12);
    }

    private static void setConflict() {
        RoleMiner x = new RoleMiner();
        checks.same("5: setConflict(0, 11, true)", x.setConflict(0, 11, true), false);
        checks.same("5: from the other end", x.setConflict(11, 0, true), true);
        checks.same("5: ended", x.setConflict(11, 0, false), true);
        checks.same("5: ended already", x.setConflict(0, 11, false), false);
        checks.same("5: anew", x.setConflict(0, 11, true), false);
        checks.same("5: not another pair", x.setConflict(0, 10, true), false);
        x.setGrants(0, 4095);
        checks.same("5: two pairs", x.violations(0), 2);
        checks.same("5: a conflict forbids no grant", x.permissions(0), 4095);
    }

    private static void violations() {
        RoleMiner x = new RoleMiner();
        x.setConflict(1, 2, true);
        x.setConflict(2, 3, true);
        x.setConflict(3, 1, true);
        x.setGrants(0, 2);
        x.setGrants(1, 6);
        x.setGrants(2, 14);
        checks.same("16: violations(0)", x.violations(0), 0);
        checks.same("16: violations(1)", x.violations(1), 1);
        checks.same("16: violations(2)", x.violations(2), 3);
        checks.same("16: violations(3)", x.violations(3), 0);
        for (int low = 0; low < 12; low++) {
            for (int high = low + 1; high < 12; high++) {
                x.setConflict(high, low, true);
            }
        }
        x.setGrants(7, 4095);
        checks.same("16: all pairs", x.violations(7), 66);
    }

    private static void wrongInputs() {
        RoleMiner x = new RoleMiner();
        x.setGrants(0, 5);
        for (int user : new int[] {-1, 8, Integer.MIN_VALUE, Integer.MAX_VALUE}) {
            checks.outside("2: grant, user " + user, () -> x.grant(user, 0));
            checks.outside("3: revoke, user " + user, () -> x.revoke(user, 0));
            checks.outside("4: setGrants, user " + user, () -> x.setGrants(user, 0));
            checks.outside("4: setGrants, both wrong, user " + user, () -> x.setGrants(user, -1));
            checks.outside("14: permissions, user " + user, () -> x.permissions(user));
            checks.outside("16: violations, user " + user, () -> x.violations(user));
        }
        for (int permission : new int[] {-1, 12, 32, Integer.MIN_VALUE, Integer.MAX_VALUE}) {
            checks.outside("2: grant, permission " + permission, () -> x.grant(0, permission));
            checks.outside("3: revoke, permission " + permission, () -> x.revoke(0, permission));
            checks.outside("5: setConflict, first " + permission, () -> x.setConflict(permission, 0, true));
            checks.outside("5: setConflict, other " + permission, () -> x.setConflict(0, permission, true));
            checks.outside("5: setConflict, both " + permission, () -> x.setConflict(permission, permission, true));
        }
        for (int set : new int[] {-1, 4096, Integer.MIN_VALUE, Integer.MAX_VALUE}) {
            checks.fails("4: setGrants, set " + set, IllegalArgumentException.class, () -> x.setGrants(0, set));
        }
        checks.fails("5: one permission", IllegalArgumentException.class, () -> x.setConflict(3, 3, true));
        checks.same("a call that throws changes nothing", x.permissions(0), 5);
        checks.same("a call that throws grants nothing", x.grants(), 2);
        x.setGrants(0, 4095);
        checks.same("a call that throws makes no conflict", x.violations(0), 0);
    }
}
