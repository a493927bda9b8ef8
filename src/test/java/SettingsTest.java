/** Promises 6 to 8: the settings. */
public final class SettingsTest {
    private static final Checks checks = new Checks();

    public static void main(String[] args) {
        setCosts();
        setSupport();
        setPeriod();
        checks.end();
    }

    private static void setCosts() {
        RoleMiner x = new RoleMiner();
        x.setGrants(0, 7);
        checks.same("6: at first an exception costs 2", x.cost(), 6);
        checks.same("6: at first a role costs 5", x.mineGreedily(), 5);
        x.setCosts(100, 0);
        checks.same("6: the highest and the lowest cost", x.cost(), 100);
        x.setCosts(0, 100);
        checks.same("6: no cost for roles", x.cost(), 0);
        x.dropRoles();
        checks.same("6: dear exceptions", x.cost(), 300);
        for (int wrong : new int[] {-1, 101, Integer.MIN_VALUE, Integer.MAX_VALUE}) {
            checks.fails("6: role " + wrong, IllegalArgumentException.class, () -> x.setCosts(wrong, 1));
            checks.fails("6: exception " + wrong, IllegalArgumentException.class, () -> x.setCosts(1, wrong));
            checks.fails("6: both " + wrong, IllegalArgumentException.class, () -> x.setCosts(wrong, wrong));
        }
        checks.same("6: a wrong call changes nothing", x.cost(), 300);
    }

    private static void setSupport() {
        RoleMiner x = new RoleMiner();
        checks.same("7: at first 1", x.setSupport(8), 1);
        for (int wrong : new int[] {0, 9, -1, Integer.MIN_VALUE, Integer.MAX_VALUE}) {
            checks.fails("7: setSupport " + wrong, IllegalArgumentException.class, () -> x.setSupport(wrong));
        }
        checks.same("7: a wrong call changes nothing", x.setSupport(1), 8);
        for (int user = 0; user < 8; user++) {
            x.setGrants(user, 1 << user + 1 | 1);
        }
        checks.same("7: each user's own set and the shared one", x.candidates(), 9);
        x.setSupport(2);
        checks.same("7: the shared one", x.candidates(), 1);
        x.setSupport(8);
        checks.same("7: just as many holders", x.candidates(), 1);
        x.revoke(7, 0);
        checks.same("7: one holder too few", x.candidates(), 0);
        checks.same("7: before", x.setSupport(7), 8);
        checks.same("7: enough again", x.candidates(), 1);
    }

    private static void setPeriod() {
        RoleMiner x = new RoleMiner();
        checks.same("8: at first 4", x.setPeriod(8), 4);
        for (int wrong : new int[] {0, 9, -1, Integer.MIN_VALUE, Integer.MAX_VALUE}) {
            checks.fails("8: setPeriod " + wrong, IllegalArgumentException.class, () -> x.setPeriod(wrong));
        }
        checks.same("8: a wrong call changes nothing", x.setPeriod(1), 8);
        x.grant(0, 0);
        checks.same("8: the shortest period", x.nextQuarter(), 1);
        x.grant(0, 0);
        x.setPeriod(8);
        for (int quarter = 0; quarter < 7; quarter++) {
            checks.same("8: within the longest period", x.nextQuarter(), 0);
        }
        checks.same("8: the longest period", x.nextQuarter(), 1);
    }
}
