/**
 * "A call that throws an exception changes nothing. If several exceptions apply, the one that is
 * named first in the throws clause is thrown." Each call that is refused, in each state in which it
 * is: it throws what is due, and the object then tells what one tells that was spared the call.
 */
public final class RefusedCallsTest {
    private static final Checks checks = new Checks();

    private static final Class<IndexOutOfBoundsException> OUTSIDE = IndexOutOfBoundsException.class;
    private static final Class<IllegalArgumentException> ARGUMENT = IllegalArgumentException.class;
    private static final Class<IllegalStateException> STATE = IllegalStateException.class;

    private interface Refused {
        void on(RoleMiner x);
    }

    private final State state;
    private final String spared;

    private RefusedCallsTest(State state) {
        this.state = state;
        spared = Probe.of(state.make());
    }

    public static void main(String[] args) {
        for (State state : State.values()) {
            RefusedCallsTest test = new RefusedCallsTest(state);
            test.users();
            test.permissions();
            test.otherNumbers();
            test.places();
            test.notGranted();
            test.firstNamed();
        }
        byState();
        checks.end();
    }

    private void refused(String call, Class<? extends RuntimeException> due, Refused run) {
        RoleMiner x = state.make();
        checks.fails(state + ": " + call, due, () -> run.on(x));
        checks.same(state + ": " + call + " changes nothing, told alike", Probe.of(x).equals(spared), true);
    }

    private void users() {
        for (int user : Beyond.USERS) {
            refused("2: grant(" + user + ", 0)", OUTSIDE, x -> x.grant(user, 0));
            refused("3: revoke(" + user + ", 0)", OUTSIDE, x -> x.revoke(user, 0));
            refused("4: setGrants(" + user + ", 5)", OUTSIDE, x -> x.setGrants(user, 5));
            refused("9: review(" + user + ", 0)", OUTSIDE, x -> x.review(user, 0));
            refused("14: permissions(" + user + ")", OUTSIDE, x -> x.permissions(user));
            refused("16: violations(" + user + ")", OUTSIDE, x -> x.violations(user));
            refused("18: due(" + user + ")", OUTSIDE, x -> x.due(user));
            refused("26: rolesOf(" + user + ")", OUTSIDE, x -> x.rolesOf(user));
            refused("27: byRoles(" + user + ")", OUTSIDE, x -> x.byRoles(user));
            refused("28: exceptions(" + user + ")", OUTSIDE, x -> x.exceptions(user));
        }
    }

    private void permissions() {
        for (int permission : Beyond.PERMISSIONS) {
            refused("2: grant(0, " + permission + ")", OUTSIDE, x -> x.grant(0, permission));
            refused("2: grant(7, " + permission + ")", OUTSIDE, x -> x.grant(7, permission));
            refused("3: revoke(0, " + permission + ")", OUTSIDE, x -> x.revoke(0, permission));
            refused("3: revoke(7, " + permission + ")", OUTSIDE, x -> x.revoke(7, permission));
            refused("9: review(0, " + permission + ")", OUTSIDE, x -> x.review(0, permission));
            refused("9: review(7, " + permission + ")", OUTSIDE, x -> x.review(7, permission));
            for (boolean conflict : new boolean[] {false, true}) {
                refused("5: setConflict(" + permission + ", 4, " + conflict + ")", OUTSIDE,
                    x -> x.setConflict(permission, 4, conflict));
                refused("5: setConflict(11, " + permission + ", " + conflict + ")", OUTSIDE,
                    x -> x.setConflict(11, permission, conflict));
            }
        }
        for (int permission = 0; permission < 12; permission++) {
            int one = permission;
            refused("5: setConflict(" + one + ", " + one + ", true)", ARGUMENT, x -> x.setConflict(one, one, true));
            refused("5: setConflict(" + one + ", " + one + ", false)", ARGUMENT, x -> x.setConflict(one, one, false));
        }
    }

    private void otherNumbers() {
        for (int set : Beyond.SETS) {
            refused("4: setGrants(0, " + set + ")", ARGUMENT, x -> x.setGrants(0, set));
            refused("4: setGrants(7, " + set + ")", ARGUMENT, x -> x.setGrants(7, set));
            refused("21: holders(" + set + ")", ARGUMENT, x -> x.holders(set));
        }
        for (int cost : Beyond.COSTS) {
            refused("6: setCosts(" + cost + ", 1)", ARGUMENT, x -> x.setCosts(cost, 1));
            refused("6: setCosts(1, " + cost + ")", ARGUMENT, x -> x.setCosts(1, cost));
            refused("6: setCosts(" + cost + ", " + cost + ")", ARGUMENT, x -> x.setCosts(cost, cost));
        }
        for (int number : Beyond.ONE_TO_EIGHT) {
            refused("7: setSupport(" + number + ")", ARGUMENT, x -> x.setSupport(number));
            refused("8: setPeriod(" + number + ")", ARGUMENT, x -> x.setPeriod(number));
        }
    }

    private void places() {
        for (int k : Beyond.places(state.make().candidates())) {
            refused("20: candidate(" + k + ")", OUTSIDE, x -> x.candidate(k));
        }
        for (int k : Beyond.places(state.make().roles())) {
            refused("25: role(" + k + ")", OUTSIDE, x -> x.role(k));
            refused("30: isRisky(" + k + ")", OUTSIDE, x -> x.isRisky(k));
        }
    }

    private void notGranted() {
        for (int user = 0; user < 8; user++) {
            int one = user;
            for (int permission : PlainModel.members(4095 & ~state.make().permissions(user))) {
                refused("9: review(" + user + ", " + permission + ")", STATE, x -> x.review(one, permission));
            }
        }
    }

    private void firstNamed() {
        for (int user : Beyond.USERS) {
            for (int number : new int[] {-1, 4096, Integer.MIN_VALUE, Integer.MAX_VALUE}) {
                refused("4: setGrants(" + user + ", " + number + ")", OUTSIDE, x -> x.setGrants(user, number));
                refused("9: review(" + user + ", " + number + ")", OUTSIDE, x -> x.review(user, number));
            }
            // Whatever permission it is, nothing is granted to no user.
            refused("9: review(" + user + ", 10)", OUTSIDE, x -> x.review(user, 10));
        }
        for (int permission : Beyond.PERMISSIONS) {
            refused("5: setConflict(" + permission + ", " + permission + ", true)", OUTSIDE,
                x -> x.setConflict(permission, permission, true));
            refused("5: setConflict(" + permission + ", " + permission + ", false)", OUTSIDE,
                x -> x.setConflict(permission, permission, false));
        }
    }

    /** Calls that are refused in one state and are not in another. */
    private static void byState() {
        RefusedCallsTest last = new RefusedCallsTest(State.LAST_QUARTER);
        last.refused("10: nextQuarter()", STATE, x -> x.nextQuarter());
        RefusedCallsTest fifteen = new RefusedCallsTest(State.FIFTEEN);
        fifteen.refused("12: mineBest()", STATE, x -> x.mineBest());
        fifteen.refused("23: leastCost()", STATE, x -> x.leastCost());
        for (int choice : new int[] {0, 1, 16383, 16384, 32767}) {
            fifteen.refused("22: costOf(" + choice + ")", STATE, x -> x.costOf(choice));
        }
        for (int choice : Beyond.choices(14)) {
            fifteen.refused("22: first named, costOf(" + choice + ")", STATE, x -> x.costOf(choice));
        }
        for (State state : new State[] {State.NEW, State.USED, State.LAST_QUARTER}) {
            RefusedCallsTest test = new RefusedCallsTest(state);
            for (int choice : Beyond.choices(state.make().candidates())) {
                test.refused("22: costOf(" + choice + ")", ARGUMENT, x -> x.costOf(choice));
            }
        }
    }
}
