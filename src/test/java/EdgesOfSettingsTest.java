/** The edges that the document names for the settings: promises 6 to 8. */
public final class EdgesOfSettingsTest {
    private static final Checks checks = new Checks();

    public static void main(String[] args) {
        costs();
        costsAtFirst();
        wrongCosts();
        support();
        supportAndHolders();
        period();
        periodAndLapse();
        checks.end();
    }

    /** "role: 0 to 100", "exception: 0 to 100". */
    private static void costs() {
        int[] edges = {0, 1, 99, 100};
        for (int role : edges) {
            for (int exception : edges) {
                RoleMiner x = new RoleMiner();
                String what = "setCosts(" + role + ", " + exception + ")";
                x.setGrants(0, 1);
                x.setGrants(7, 2050);
                x.setCosts(role, exception);
                checks.same("6: " + what + ", exceptions", x.cost(), 3 * exception);
                checks.same("6: " + what + ", a choice", x.costOf(3), 2 * role);
                checks.same("6: " + what + ", another choice", x.costOf(2), role + exception);
            }
        }
    }

    /** "the cost of a role (.., at first 5)", "the cost of an exception (.., at first 2)" */
    private static void costsAtFirst() {
        RoleMiner x = new RoleMiner();
        x.setGrants(0, 1);
        checks.same("6: an exception at first", x.cost(), 2);
        checks.same("6: a role at first", x.costOf(1), 5);
    }

    private static void wrongCosts() {
        RoleMiner x = new RoleMiner();
        x.setGrants(0, 1);
        x.setCosts(100, 0);
        for (int wrong : Beyond.COSTS) {
            for (int right : new int[] {0, 100}) {
                checks.fails("6: role " + wrong, IllegalArgumentException.class, () -> x.setCosts(wrong, right));
                checks.fails("6: exception " + wrong, IllegalArgumentException.class, () -> x.setCosts(right, wrong));
            }
        }
        checks.same("6: the role's cost stays", x.costOf(1), 100);
        checks.same("6: the exception's cost stays", x.cost(), 0);
    }

    /** "holders: 1 to 8", "Returns the support before." */
    private static void support() {
        RoleMiner x = new RoleMiner();
        int before = 1;
        for (int holders : new int[] {1, 8, 8, 1, 1, 2, 3, 4, 5, 6, 7, 8}) {
            checks.same("7: setSupport(" + holders + ")", x.setSupport(holders), before);
            before = holders;
        }
        for (int wrong : Beyond.ONE_TO_EIGHT) {
            checks.fails("7: setSupport(" + wrong + ")", IllegalArgumentException.class, () -> x.setSupport(wrong));
        }
        checks.same("7: the highest stays", x.setSupport(1), 8);
    }

    /** "has as many holders as the support, or more": just as many, one fewer and one more. */
    private static void supportAndHolders() {
        for (int holders = 1; holders <= 8; holders++) {
            RoleMiner x = new RoleMiner();
            for (int user = 0; user < holders; user++) {
                x.setGrants(7 - user, 2049);
            }
            for (int support = 1; support <= 8; support++) {
                x.setSupport(support);
                String what = holders + " holders, support " + support;
                checks.same("7: " + what, x.candidates(), holders >= support ? 1 : 0);
            }
        }
    }

    /** "quarters: 1 to 8", "Returns the period before." */
    private static void period() {
        RoleMiner x = new RoleMiner();
        int before = 4;
        for (int quarters : new int[] {1, 8, 8, 1, 1, 2, 3, 4, 5, 6, 7, 8}) {
            checks.same("8: setPeriod(" + quarters + ")", x.setPeriod(quarters), before);
            before = quarters;
        }
        for (int wrong : Beyond.ONE_TO_EIGHT) {
            checks.fails("8: setPeriod(" + wrong + ")", IllegalArgumentException.class, () -> x.setPeriod(wrong));
        }
        checks.same("8: the highest stays", x.setPeriod(1), 8);
    }

    /** "all grants lapse that were granted or last reviewed as many quarters ago as the period .., or more" */
    private static void periodAndLapse() {
        for (int period = 0; period <= 8; period++) {
            RoleMiner x = new RoleMiner();
            // The period that is set at first is tried without being set.
            int quarters = period == 0 ? 4 : period;
            if (period != 0) {
                x.setPeriod(period);
            }
            x.grant(0, 0);
            x.grant(7, 11);
            for (int ago = 1; ago < quarters; ago++) {
                checks.same("18: too early, period " + quarters, x.due(0) + x.due(7), 0);
                checks.same("10: one quarter short, period " + quarters, x.nextQuarter(), 0);
            }
            checks.same("18: due now, period " + quarters, x.due(0) + x.due(7), 2049);
            checks.same("10: as many quarters ago as the period " + quarters, x.nextQuarter(), 2);
            checks.same("10: they are gone, period " + quarters, x.grants(), 0);
        }
    }
}
