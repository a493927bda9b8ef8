/** The edges that the document names for grants and conflicts: promises 1 to 5 and 14 to 16. */
public final class EdgesOfGrantsTest {
    private static final Checks checks = new Checks();

    public static void main(String[] args) {
        newObject();
        everyGrant();
        grantedAlready();
        revokedAlready();
        emptyAndFullSet();
        oneOfASet();
        eachPairInConflict();
        anotherPermission();
        violationsOfFewPermissions();
        conflictOnceOnly();
        otherUsersAreLeft();
        checks.end();
    }

    /** "No grants, conflicts or roles; the quarter is 0." */
    private static void newObject() {
        RoleMiner x = new RoleMiner();
        checks.same("1: no grants", x.grants(), 0);
        checks.same("1: no roles", x.roles(), 0);
        checks.same("1: nor any to drop", x.dropRoles(), 0);
        checks.same("1: the quarter", x.quarter(), 0);
        for (int user = 0; user < 8; user++) {
            checks.same("1: permissions(" + user + ")", x.permissions(user), 0);
        }
        for (int low = 0; low < 12; low++) {
            for (int high = low + 1; high < 12; high++) {
                checks.same("1: no conflict of " + low + " and " + high, x.setConflict(low, high, false), false);
            }
        }
    }

    /** "user: 0 to 7", "permission: 0 to 11": each of them, from no grant to all 96. */
    private static void everyGrant() {
        RoleMiner x = new RoleMiner();
        int count = 0;
        for (int user = 0; user < 8; user++) {
            for (int permission = 0; permission < 12; permission++) {
                String what = user + ", " + permission;
                checks.same("2: grant(" + what + ")", x.grant(user, permission), true);
                count++;
                checks.same("15: grants() after " + what, x.grants(), count);
            }
            checks.same("14: permissions(" + user + ")", x.permissions(user), 4095);
        }
        checks.same("15: all", x.grants(), 96);
        for (int user = 0; user < 8; user++) {
            for (int permission = 0; permission < 12; permission++) {
                String what = user + ", " + permission;
                checks.same("3: revoke(" + what + ")", x.revoke(user, permission), true);
                count--;
            }
            checks.same("14: permissions(" + user + ") revoked", x.permissions(user), 0);
            checks.same("15: grants() less those of " + user, x.grants(), count);
        }
        checks.same("15: none", x.grants(), 0);
    }

    /** "If it is granted already, nothing changes." */
    private static void grantedAlready() {
        for (int user : new int[] {0, 7}) {
            for (int permission : new int[] {0, 11}) {
                RoleMiner x = new RoleMiner();
                String what = user + ", " + permission;
                x.setPeriod(2);
                x.grant(user, permission);
                x.nextQuarter();
                checks.same("2: again " + what, x.grant(user, permission), false);
                checks.same("2: one grant still " + what, x.grants(), 1);
                checks.same("2: as due as before " + what, x.due(user), 1 << permission);
                checks.same("2: it lapses by its first quarter " + what, x.nextQuarter(), 1);
                checks.same("2: it is new after that " + what, x.grant(user, permission), true);
                checks.same("2: nor due then " + what, x.due(user), 0);
            }
        }
    }

    private static void revokedAlready() {
        for (int user : new int[] {0, 7}) {
            for (int permission : new int[] {0, 11}) {
                RoleMiner x = new RoleMiner();
                String what = user + ", " + permission;
                checks.same("3: never granted " + what, x.revoke(user, permission), false);
                checks.same("3: nothing granted by that " + what, x.grants(), 0);
                x.setGrants(user, 4095);
                checks.same("3: granted " + what, x.revoke(user, permission), true);
                checks.same("3: revoked already " + what, x.revoke(user, permission), false);
                checks.same("3: the others stand " + what, x.permissions(user), 4095 - (1 << permission));
                x.setGrants(user, 1 << permission);
                checks.same("3: the only one " + what, x.revoke(user, permission), true);
                checks.same("3: none left " + what, x.permissions(user), 0);
            }
        }
    }

    /** "how many grants are made or revoked by that", with the lowest set, 0, and the highest, 4095. */
    private static void emptyAndFullSet() {
        for (int user : new int[] {0, 7}) {
            RoleMiner x = new RoleMiner();
            checks.same("4: none of none", x.setGrants(user, 0), 0);
            checks.same("4: all of none", x.setGrants(user, 4095), 12);
            checks.same("4: all of all", x.setGrants(user, 4095), 0);
            checks.same("14: all", x.permissions(user), 4095);
            x.nextQuarter();
            x.setGrants(user, 4095);
            checks.same("4: all keep their quarters", x.review(user, 0) + x.review(user, 11), 2);
            checks.same("4: none of all", x.setGrants(user, 0), 12);
            checks.same("14: none", x.permissions(user), 0);
            x.setGrants(user, 4095);
            checks.same("4: all are of now, the lowest", x.review(user, 0), 0);
            checks.same("4: all are of now, the highest", x.review(user, 11), 0);
            checks.same("4: all are of now, another", x.review(user, 5), 0);
        }
    }

    private static void oneOfASet() {
        RoleMiner x = new RoleMiner();
        checks.same("4: the lowest alone", x.setGrants(3, 1), 1);
        checks.same("4: the highest in its stead", x.setGrants(3, 2048), 2);
        checks.same("4: all but the highest", x.setGrants(3, 2047), 12);
        checks.same("4: all but the lowest", x.setGrants(3, 4094), 2);
        checks.same("4: one more", x.setGrants(3, 4095), 1);
        checks.same("4: one less", x.setGrants(3, 4094), 1);
        checks.same("14: just those", x.permissions(3), 4094);
    }

    /** "Puts two permissions in conflict, or ends that. Returns whether they were." */
    private static void eachPairInConflict() {
        RoleMiner x = new RoleMiner();
        int pairs = 0;
        for (int low = 0; low < 12; low++) {
            for (int high = low + 1; high < 12; high++) {
                String what = low + ", " + high;
                checks.same("5: were not: " + what, x.setConflict(high, low, true), false);
                pairs++;
                checks.same("5: were: " + what, x.setConflict(low, high, true), true);
            }
        }
        x.setGrants(0, 4095);
        checks.same("16: all pairs", x.violations(0), pairs);
        checks.same("16: that is 66", pairs, 66);
        for (int low = 0; low < 12; low++) {
            for (int high = low + 1; high < 12; high++) {
                String what = low + ", " + high;
                checks.same("5: still were: " + what, x.setConflict(low, high, false), true);
                pairs--;
                checks.same("5: ended: " + what, x.setConflict(high, low, false), false);
                checks.same("16: a pair less: " + what, x.violations(0), pairs);
            }
        }
    }

    /** "other: another one": the next one, and the farthest one. */
    private static void anotherPermission() {
        RoleMiner x = new RoleMiner();
        checks.same("5: the farthest", x.setConflict(0, 11, true), false);
        checks.same("5: the farthest, told from the other", x.setConflict(11, 0, false), true);
        checks.same("5: the two lowest", x.setConflict(0, 1, true), false);
        checks.same("5: the two highest", x.setConflict(11, 10, true), false);
        checks.same("5: not those between", x.setConflict(1, 10, false), false);
        checks.same("5: nor the farthest any more", x.setConflict(0, 11, false), false);
    }

    private static void violationsOfFewPermissions() {
        RoleMiner x = new RoleMiner();
        Made.allConflicts(x, true);
        for (int user : new int[] {0, 7}) {
            checks.same("16: of no permission", x.violations(user), 0);
            for (int permission = 0; permission < 12; permission++) {
                x.setGrants(user, 1 << permission);
                checks.same("16: of one permission", x.violations(user), 0);
            }
            x.setGrants(user, 2049);
            checks.same("16: of the lowest and the highest", x.violations(user), 1);
            x.setGrants(user, 3073);
            checks.same("16: of three", x.violations(user), 3);
            x.setGrants(user, 4095);
            checks.same("16: of all", x.violations(user), 66);
        }
    }

    /** Putting or ending a conflict twice is no more than once. */
    private static void conflictOnceOnly() {
        RoleMiner x = new RoleMiner();
        x.setGrants(7, 4095);
        x.setConflict(0, 11, true);
        x.setConflict(0, 11, true);
        x.setConflict(11, 0, true);
        checks.same("16: one pair", x.violations(7), 1);
        x.setConflict(11, 0, false);
        checks.same("16: ended at once", x.violations(7), 0);
        x.setConflict(0, 11, false);
        checks.same("16: ended still", x.violations(7), 0);
    }

    private static void otherUsersAreLeft() {
        RoleMiner x = Made.allGranted();
        x.revoke(0, 0);
        x.revoke(7, 11);
        x.setGrants(3, 0);
        for (int user = 0; user < 8; user++) {
            int due = user == 0 ? 4094 : user == 7 ? 2047 : user == 3 ? 0 : 4095;
            checks.same("14: permissions(" + user + ")", x.permissions(user), due);
        }
        checks.same("15: grants()", x.grants(), 82);
    }
}
