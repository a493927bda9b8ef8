/** Objects that several tests begin with. */
final class Made {
    private Made() {
    }

    /** Each set of users shares another set: 255 candidates, the set without u's bits for the users u. */
    static RoleMiner mostCandidates() {
        RoleMiner x = new RoleMiner();
        for (int user = 0; user < 8; user++) {
            x.setGrants(user, 4095 & ~(1 << user));
        }
        return x;
    }

    /** Two groups of three users, of which each set of users shares another set. */
    static RoleMiner fourteenCandidates() {
        RoleMiner x = new RoleMiner();
        for (int user = 0; user < 3; user++) {
            x.setGrants(user, 15 & ~(1 << user));
            x.setGrants(user + 3, (15 & ~(1 << user)) << 4);
        }
        return x;
    }

    static RoleMiner fifteenCandidates() {
        RoleMiner x = fourteenCandidates();
        x.grant(6, 11);
        return x;
    }

    /** Four grants, but no candidate: what a user has is in conflict. */
    static RoleMiner noCandidate() {
        RoleMiner x = new RoleMiner();
        x.setGrants(0, 6);
        x.setGrants(7, 2049);
        x.setConflict(1, 2, true);
        x.setConflict(11, 0, true);
        return x;
    }

    /** All permissions of all users: one candidate, with all of them. */
    static RoleMiner allGranted() {
        RoleMiner x = new RoleMiner();
        for (int user = 0; user < 8; user++) {
            x.setGrants(user, 4095);
        }
        return x;
    }

    /** Puts each two permissions in conflict, by 66 calls. */
    static void allConflicts(RoleMiner x, boolean conflict) {
        for (int low = 0; low < 12; low++) {
            for (int high = low + 1; high < 12; high++) {
                x.setConflict(low, high, conflict);
            }
        }
    }

    /** Twelve candidates of one permission each, which two users have; any two users share one at most. */
    static RoleMiner twelveRolesNeeded() {
        RoleMiner x = new RoleMiner();
        allConflicts(x, true);
        for (int user = 0; user < 8; user++) {
            x.setGrants(user, 1 << user | 1 << (user + 7) % 8 | 1 << 8 + user % 4);
        }
        return x;
    }

    /** By these grants and conflicts 19 roles are laid greedily, if roles cost nothing; found by a search. */
    static RoleMiner nineteenRolesGreedily() {
        int[] sets = {1943, 3361, 3508, 665, 2511, 3154, 874, 2149};
        int[] above = {1688, 3480, 1072, 1200, 3072, 832, 3200, 2304, 0, 1024, 2048, 0};
        RoleMiner x = new RoleMiner();
        for (int user = 0; user < 8; user++) {
            x.setGrants(user, sets[user]);
        }
        for (int low = 0; low < 12; low++) {
            for (int high : PlainModel.members(above[low])) {
                x.setConflict(low, high, true);
            }
        }
        x.setSupport(2);
        x.setCosts(0, 1);
        return x;
    }
}
