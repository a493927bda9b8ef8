/** The edges that the document names for reviews and quarters: promises 9, 10, 17 and 18. */
public final class EdgesOfReviewsTest {
    private static final Checks checks = new Checks();

    public static void main(String[] args) {
        quarterZero();
        eachAge();
        lowestAndHighestGrant();
        orMore();
        shorterPeriodAlone();
        longerPeriod();
        reviewedAtTheLastMoment();
        regrantedIsNew();
        noneAndAllLapse();
        lastQuarters();
        refusedQuarter();
        changesInTheLastQuarter();
        conflictsAndRolesDoNotLapse();
        checks.end();
    }

    private static void quarters(RoleMiner x, int many) {
        for (int quarter = 0; quarter < many; quarter++) {
            x.nextQuarter();
        }
    }

    /** "Quarters are counted from 0 on." */
    private static void quarterZero() {
        RoleMiner x = new RoleMiner();
        checks.same("17: at first", x.quarter(), 0);
        x.setGrants(0, 4095);
        checks.same("9: granted in quarter 0, reviewed in it", x.review(0, 11), 0);
        checks.same("18: due in quarter 0 by the period at first", x.due(0), 0);
        x.setPeriod(2);
        checks.same("18: due in quarter 0 by period 2", x.due(0), 0);
        x.setPeriod(1);
        checks.same("18: due in quarter 0 by period 1", x.due(0), 4095);
        checks.same("18: of none", x.due(7), 0);
        checks.same("10: all lapse", x.nextQuarter(), 12);
        checks.same("17: the first after it", x.quarter(), 1);
    }

    /** "Returns how many quarters ago it was granted or last reviewed.": 0 up to 7, which the longest period leaves. */
    private static void eachAge() {
        for (int ago = 0; ago <= 7; ago++) {
            RoleMiner x = new RoleMiner();
            x.setPeriod(8);
            x.nextQuarter();
            x.grant(0, 11);
            x.grant(7, 0);
            quarters(x, ago);
            checks.same("9: granted " + ago + " ago", x.review(0, 11), ago);
            checks.same("9: granted " + ago + " ago, another", x.review(7, 0), ago);
            checks.same("9: reviewed now", x.review(0, 11), 0);
            quarters(x, ago);
            checks.same("9: last reviewed " + ago + " ago", x.review(0, 11), ago);
        }
    }

    /** A review is of one grant alone, at each end of the users and the permissions. */
    private static void lowestAndHighestGrant() {
        for (int user : new int[] {0, 7}) {
            for (int permission : new int[] {0, 11}) {
                RoleMiner x = Made.allGranted();
                quarters(x, 3);
                String what = user + ", " + permission;
                checks.same("9: review(" + what + ")", x.review(user, permission), 3);
                for (int other = 0; other < 8; other++) {
                    int due = other == user ? 4095 - (1 << permission) : 4095;
                    checks.same("18: due(" + other + ") after " + what, x.due(other), due);
                }
                checks.same("10: all but one, " + what, x.nextQuarter(), 95);
                checks.same("14: that one stands, " + what, x.permissions(user), 1 << permission);
            }
        }
    }

    /** "as many quarters ago as the period .., or more", which a shorter period brings about. */
    private static void orMore() {
        RoleMiner x = new RoleMiner();
        x.setPeriod(8);
        x.grant(0, 0);
        x.nextQuarter();
        x.grant(0, 1);
        quarters(x, 4);
        x.grant(0, 2);
        x.nextQuarter();
        x.grant(0, 3);
        x.setPeriod(2);
        checks.same("18: seven, six and two ago", x.due(0), 7);
        checks.same("10: they lapse", x.nextQuarter(), 3);
        checks.same("14: one ago stands", x.permissions(0), 8);
    }

    /** Grants lapse when a quarter begins, not when the period is set. */
    private static void shorterPeriodAlone() {
        RoleMiner x = new RoleMiner();
        x.grant(7, 11);
        quarters(x, 3);
        x.setPeriod(1);
        checks.same("10: it stands as long as the quarter", x.permissions(7), 2048);
        x.setPeriod(8);
        checks.same("18: not due by the period of now", x.due(7), 0);
        checks.same("10: nor does it lapse", x.nextQuarter(), 0);
    }

    private static void longerPeriod() {
        RoleMiner x = new RoleMiner();
        x.setPeriod(1);
        x.grant(7, 11);
        x.setPeriod(2);
        checks.same("10: not by the period of then", x.nextQuarter(), 0);
        checks.same("10: by the period of now", x.nextQuarter(), 1);
    }

    private static void reviewedAtTheLastMoment() {
        RoleMiner x = new RoleMiner();
        x.grant(7, 11);
        for (int round = 0; round < 5; round++) {
            quarters(x, 3);
            checks.same("18: due", x.due(7), 2048);
            checks.same("9: reviewed", x.review(7, 11), 3);
            checks.same("18: due no more", x.due(7), 0);
        }
        quarters(x, 3);
        checks.same("10: not reviewed this time", x.nextQuarter(), 1);
        checks.fails("9: lapsed", IllegalStateException.class, () -> x.review(7, 11));
    }

    /** "A grant remembers the quarter in which it was granted": the latest time. */
    private static void regrantedIsNew() {
        RoleMiner x = new RoleMiner();
        x.nextQuarter();
        x.setGrants(0, 15);
        quarters(x, 3);
        x.revoke(0, 0);
        checks.fails("9: revoked", IllegalStateException.class, () -> x.review(0, 0));
        x.grant(0, 0);
        x.setGrants(0, 7);
        checks.fails("9: revoked with others", IllegalStateException.class, () -> x.review(0, 3));
        x.setGrants(0, 15);
        x.grant(0, 1);
        checks.same("18: those that stayed are due", x.due(0), 6);
        checks.same("10: they lapse", x.nextQuarter(), 2);
        checks.same("10: the new ones stand", x.permissions(0), 9);
    }

    /** "Returns how many grants lapse.": from none to all 96. */
    private static void noneAndAllLapse() {
        RoleMiner x = new RoleMiner();
        checks.same("10: no grants", x.nextQuarter(), 0);
        for (int user = 0; user < 8; user++) {
            x.setGrants(user, 4095);
        }
        x.setPeriod(1);
        for (int user = 0; user < 8; user++) {
            checks.same("18: all of " + user, x.due(user), 4095);
        }
        checks.same("10: all grants", x.nextQuarter(), 96);
        checks.same("15: none left", x.grants(), 0);
        checks.same("10: none to lapse", x.nextQuarter(), 0);
    }

    /** "if the quarter is 100": in 99 the next one begins. */
    private static void lastQuarters() {
        RoleMiner x = new RoleMiner();
        quarters(x, 98);
        x.setPeriod(2);
        x.grant(0, 0);
        checks.same("10: 99 begins", x.nextQuarter(), 0);
        checks.same("17: 99", x.quarter(), 99);
        x.grant(0, 1);
        checks.same("18: due in 99", x.due(0), 1);
        checks.same("10: 100 begins", x.nextQuarter(), 1);
        checks.same("17: 100", x.quarter(), 100);
        checks.same("14: what is younger stands", x.permissions(0), 2);
        checks.fails("10: no more", IllegalStateException.class, () -> x.nextQuarter());
        checks.fails("10: nor another time", IllegalStateException.class, () -> x.nextQuarter());
        checks.same("17: 100 still", x.quarter(), 100);
    }

    /** "A call that throws an exception changes nothing": neither the grants nor what they remember. */
    private static void refusedQuarter() {
        RoleMiner x = new RoleMiner();
        quarters(x, 97);
        x.setGrants(7, 4095);
        quarters(x, 3);
        checks.same("18: due in 100, if the next quarter began", x.due(7), 4095);
        checks.fails("10: it does not", IllegalStateException.class, () -> x.nextQuarter());
        checks.same("14: nothing lapses", x.permissions(7), 4095);
        checks.same("18: due as before", x.due(7), 4095);
        checks.same("9: three quarters ago as before", x.review(7, 11), 3);
        checks.same("18: not what was reviewed", x.due(7), 2047);
    }

    private static void changesInTheLastQuarter() {
        RoleMiner x = new RoleMiner();
        x.setPeriod(8);
        quarters(x, 93);
        x.grant(0, 0);
        quarters(x, 7);
        checks.same("9: granted in 93", x.review(0, 0), 7);
        checks.same("2: granted in 100", x.grant(7, 11), true);
        checks.same("9: and reviewed", x.review(7, 11), 0);
        checks.same("18: not due", x.due(7), 0);
        x.setPeriod(1);
        checks.same("18: due by period 1", x.due(7), 2048);
        checks.same("3: revoked", x.revoke(7, 11), true);
        checks.same("18: nothing any more", x.due(7), 0);
    }

    private static void conflictsAndRolesDoNotLapse() {
        RoleMiner x = new RoleMiner();
        x.setCosts(1, 2);
        x.setGrants(0, 3);
        x.mineBest();
        x.setConflict(0, 1, true);
        x.setSupport(3);
        checks.same("10: the grants lapse in the end", x.nextQuarter() + x.nextQuarter() + x.nextQuarter()
            + x.nextQuarter(), 2);
        checks.same("24: not the roles", x.roles(), 1);
        checks.same("25: nor their sets", x.role(0), 3);
        checks.same("5: nor the conflicts", x.setConflict(0, 1, true), true);
        checks.same("7: nor the settings", x.setSupport(1), 3);
        checks.same("8: nor the period", x.setPeriod(1), 4);
        checks.same("29: nor the costs", x.cost(), 1);
    }
}
