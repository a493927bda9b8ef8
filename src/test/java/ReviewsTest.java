/** Promises 9, 10, 17 and 18: reviews and quarters. */
public final class ReviewsTest {
    private static final Checks checks = new Checks();

    public static void main(String[] args) {
        review();
        lapse();
        shorterPeriod();
        lastQuarter();
        wrongInputs();
        checks.end();
    }

    private static void review() {
        RoleMiner x = new RoleMiner();
        x.grant(1, 2);
        checks.same("9: granted now", x.review(1, 2), 0);
        x.nextQuarter();
        x.nextQuarter();
        checks.same("9: granted two quarters ago", x.review(1, 2), 2);
        checks.same("9: reviewed now", x.review(1, 2), 0);
        x.nextQuarter();
        checks.same("9: reviewed one quarter ago", x.review(1, 2), 1);
        checks.same("9: the grant stands", x.permissions(1), 4);
    }

    private static void lapse() {
        RoleMiner x = new RoleMiner();
        x.setGrants(0, 3);
        x.setGrants(7, 2048);
        for (int quarter = 1; quarter <= 3; quarter++) {
            checks.same("18: nothing due yet", x.due(0), 0);
            checks.same("10: nothing lapses", x.nextQuarter(), 0);
            checks.same("17: quarter()", x.quarter(), quarter);
        }
        checks.same("18: due(0)", x.due(0), 3);
        x.review(0, 1);
        x.grant(0, 5);
        checks.same("18: reviewed, so not due", x.due(0), 1);
        checks.same("18: due(7)", x.due(7), 2048);
        checks.same("18: nothing is granted", x.due(3), 0);
        checks.same("18: due changes nothing", x.grants(), 4);
        checks.same("10: two lapse", x.nextQuarter(), 2);
        checks.same("10: the others stand", x.permissions(0), 34);
        checks.same("10: none left", x.permissions(7), 0);
        checks.same("10: what lapsed can be granted", x.grant(7, 11), true);
        checks.same("10: and is new then", x.review(7, 11), 0);
    }

    private static void shorterPeriod() {
        RoleMiner x = new RoleMiner();
        x.setGrants(4, 9);
        x.nextQuarter();
        x.nextQuarter();
        x.setPeriod(1);
        checks.same("10: nothing lapses within a quarter", x.permissions(4), 9);
        checks.same("18: due by the period of now", x.due(4), 9);
        x.review(4, 0);
        checks.same("18: with period 1 all are due", x.due(4), 9);
        x.setPeriod(2);
        checks.same("18: not the reviewed one", x.due(4), 8);
        checks.same("10: older than the period, too", x.nextQuarter(), 1);
        checks.same("10: the reviewed one stands", x.permissions(4), 1);
    }

    private static void lastQuarter() {
        RoleMiner x = new RoleMiner();
        for (int quarter = 1; quarter <= 100; quarter++) {
            if (quarter == 98) {
                x.grant(2, 3);
            }
            checks.same("10: nothing lapses", x.nextQuarter(), 0);
        }
        checks.same("17: the last quarter", x.quarter(), 100);
        checks.fails("10: no quarter after it", IllegalStateException.class, x::nextQuarter);
        checks.same("10: the quarter stays", x.quarter(), 100);
        checks.same("10: the grants stay", x.permissions(2), 8);
        checks.same("18: due, if the next quarter began", x.due(2), 8);
        checks.same("9: review(2, 3)", x.review(2, 3), 3);
        checks.same("18: not due any more", x.due(2), 0);
    }

    private static void wrongInputs() {
        RoleMiner x = new RoleMiner();
        x.grant(0, 0);
        x.nextQuarter();
        for (int user : new int[] {-1, 8, Integer.MIN_VALUE, Integer.MAX_VALUE}) {
            checks.outside("9: review, user " + user, () -> x.review(user, 0));
            checks.outside("18: due, user " + user, () -> x.due(user));
        }
        for (int permission : new int[] {-1, 12, 32, Integer.MIN_VALUE, Integer.MAX_VALUE}) {
            checks.outside("9: review, permission " + permission, () -> x.review(0, permission));
        }
        checks.fails("9: not granted", IllegalStateException.class, () -> x.review(0, 1));
        checks.fails("9: not granted to the user", IllegalStateException.class, () -> x.review(1, 0));
        checks.same("9: a wrong call changes nothing", x.review(0, 0), 1);
    }
}
