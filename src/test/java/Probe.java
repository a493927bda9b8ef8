/**
 * Tells by calls all that an object holds: what each reading call answers, then what only changing
 * calls tell. It uses the object up, by some 330 calls at most.
 */
final class Probe {
    private final RoleMiner x;
    private final StringBuilder told = new StringBuilder();

    private Probe(RoleMiner x) {
        this.x = x;
    }

    static String of(RoleMiner x) {
        Probe probe = new Probe(x);
        probe.grants();
        probe.roles();
        probe.candidates();
        probe.settings();
        probe.conflicts();
        probe.ages();
        probe.costs();
        return probe.told.toString();
    }

    private void tell(String what, int answer) {
        told.append(what).append('=').append(answer).append(' ');
    }

    private void tell(String what, boolean answer) {
        told.append(what).append('=').append(answer).append(' ');
    }

    private void grants() {
        tell("quarter", x.quarter());
        tell("grants", x.grants());
        for (int user = 0; user < 8; user++) {
            tell("permissions " + user, x.permissions(user));
            tell("violations " + user, x.violations(user));
            tell("due " + user, x.due(user));
        }
        for (int permission = 0; permission < 12; permission++) {
            tell("holders of " + permission, x.holders(1 << permission));
        }
    }

    private void roles() {
        int many = x.roles();
        tell("roles", many);
        for (int k = 0; k < many; k++) {
            tell("role " + k, x.role(k));
            tell("risky " + k, x.isRisky(k));
        }
        for (int user = 0; user < 8; user++) {
            tell("roles of " + user, x.rolesOf(user));
            tell("by roles " + user, x.byRoles(user));
            tell("exceptions " + user, x.exceptions(user));
        }
        tell("cost", x.cost());
    }

    private void candidates() {
        int many = x.candidates();
        tell("candidates", many);
        for (int k = 0; k < many && k < 20; k++) {
            tell("candidate " + k, x.candidate(k));
        }
        if (many <= 14) {
            tell("least cost", x.leastCost());
            for (int k = 0; k < many; k++) {
                tell("cost of " + k, x.costOf(1 << k));
            }
        }
    }

    private void settings() {
        tell("support", x.setSupport(1));
        tell("period", x.setPeriod(1));
    }

    private void conflicts() {
        for (int low = 0; low < 12; low++) {
            for (int high = low + 1; high < 12; high++) {
                tell("conflict " + low + " " + high, x.setConflict(low, high, false));
            }
        }
    }

    private void ages() {
        for (int user = 0; user < 8; user++) {
            for (int permission : PlainModel.members(x.permissions(user))) {
                tell("age " + user + " " + permission, x.review(user, permission));
            }
        }
    }

    /** With one grant, one candidate and no role. */
    private void costs() {
        tell("dropped", x.dropRoles());
        for (int user = 0; user < 8; user++) {
            x.setGrants(user, user == 0 ? 1 : 0);
        }
        tell("cost of an exception", x.costOf(0));
        tell("cost of a role", x.costOf(1));
    }
}
