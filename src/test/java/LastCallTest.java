/** "An object is used for at most 512 calls": the 512th call answers as the first one does. */
public final class LastCallTest {
    private static final Checks checks = new Checks();

    public static void main(String[] args) {
        dearestCalls();
        manyCandidates();
        grants();
        checks.end();
    }

    /** The call before and the last one lay other roles than those laid before. */
    private static void dearestCalls() {
        RoleMiner x = Made.fourteenCandidates();
        for (int call = 7; call <= 509; call++) {
            if (call % 2 == 0) {
                checks.same("23: call " + call, x.leastCost(), 28);
            } else {
                checks.same("12: call " + call, x.mineBest(), 28);
            }
        }
        x.setCosts(100, 100);
        checks.same("12: the 511th call", x.mineBest(), 600);
        checks.same("24: the 512th call", x.roles(), 6);
    }

    private static void manyCandidates() {
        RoleMiner x = Made.mostCandidates();
        for (int call = 9; call <= 511; call++) {
            checks.same("11: call " + call, x.mineGreedily(), 29);
        }
        checks.same("19: the 512th call", x.candidates(), 255);
    }

    private static void grants() {
        RoleMiner x = new RoleMiner();
        for (int call = 1; call <= 511; call++) {
            int user = call / 12 % 8;
            if (call % 2 == 1) {
                checks.same("2: call " + call, x.grant(user, 11), true);
            } else {
                checks.same("3: call " + call, x.revoke((call - 1) / 12 % 8, 11), true);
            }
        }
        checks.same("15: the 512th call", x.grants(), 1);
    }
}
