/**
 * ".. nothing from here on changes anything": the calls of promises 14 to 30, in each state, with the
 * lowest and the highest number that is allowed. After each the object tells what one tells that was
 * spared the call.
 */
public final class ReadingCallsTest {
    private static final Checks checks = new Checks();

    private interface Reading {
        void on(RoleMiner x);
    }

    private final State state;
    private final String spared;

    private ReadingCallsTest(State state) {
        this.state = state;
        spared = Probe.of(state.make());
    }

    public static void main(String[] args) {
        for (State state : State.values()) {
            ReadingCallsTest test = new ReadingCallsTest(state);
            test.plain();
            test.ofUsers();
            test.ofCandidates();
            test.ofRoles();
        }
        checks.end();
    }

    private void same(String call, Reading run) {
        RoleMiner x = state.make();
        run.on(x);
        checks.same(state + ": " + call + " changes nothing, told alike", Probe.of(x).equals(spared), true);
    }

    private void plain() {
        same("15: grants()", x -> x.grants());
        same("17: quarter()", x -> x.quarter());
        same("19: candidates()", x -> x.candidates());
        same("21: holders(0)", x -> x.holders(0));
        same("21: holders(4095)", x -> x.holders(4095));
        same("24: roles()", x -> x.roles());
        same("29: cost()", x -> x.cost());
    }

    private void ofUsers() {
        for (int user : new int[] {0, 7}) {
            same("14: permissions(" + user + ")", x -> x.permissions(user));
            same("16: violations(" + user + ")", x -> x.violations(user));
            same("18: due(" + user + ")", x -> x.due(user));
            same("26: rolesOf(" + user + ")", x -> x.rolesOf(user));
            same("27: byRoles(" + user + ")", x -> x.byRoles(user));
            same("28: exceptions(" + user + ")", x -> x.exceptions(user));
        }
    }

    private void ofCandidates() {
        int many = state.make().candidates();
        if (many > 0) {
            same("20: candidate(0)", x -> x.candidate(0));
            same("20: candidate(" + (many - 1) + ")", x -> x.candidate(many - 1));
        }
        if (many <= 14) {
            same("22: costOf(0)", x -> x.costOf(0));
            same("22: costOf of all", x -> x.costOf((1 << many) - 1));
            same("23: leastCost()", x -> x.leastCost());
        }
    }

    private void ofRoles() {
        int many = state.make().roles();
        if (many > 0) {
            for (int k : new int[] {0, many - 1}) {
                same("25: role(" + k + ")", x -> x.role(k));
                same("30: isRisky(" + k + ")", x -> x.isRisky(k));
            }
        }
    }
}
