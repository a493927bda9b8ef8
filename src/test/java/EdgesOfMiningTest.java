/** The edges that the document names for mining: promises 11 to 13. */
public final class EdgesOfMiningTest {
    private static final Checks checks = new Checks();

    public static void main(String[] args) {
        noCandidate();
        oneCandidate();
        onlyWhatBecomesLess();
        greedyTies();
        greedyTieAfterTheFirst();
        greedyBeginsWithNone();
        greedyWithTheMost();
        mostRolesGreedily();
        fewestOfTheCheapest();
        comparedByTheNext();
        comparedByTheThird();
        comparedAcross();
        fourteen();
        fifteen();
        mostRoles();
        edgesOfCosts();
        rolesAreLaidAnew();
        dropRoles();
        checks.end();
    }

    private static void laid(RoleMiner x, String what, int... sets) {
        checks.same("24: " + what, x.roles(), sets.length);
        for (int k = 0; k < sets.length && k < x.roles(); k++) {
            checks.same("25: " + what + ", role(" + k + ")", x.role(k), sets[k]);
        }
        for (int k : Beyond.places(sets.length)) {
            checks.outside("25: " + what + ", role(" + k + ")", () -> x.role(k));
        }
    }

    private static void greedily(RoleMiner x, String what, int cost, int... sets) {
        checks.same("11: " + what, x.mineGreedily(), cost);
        laid(x, what, sets);
        checks.same("29: the cost of the choice, " + what, x.cost(), cost);
    }

    private static void best(RoleMiner x, String what, int cost, int... sets) {
        checks.same("12: " + what, x.mineBest(), cost);
        laid(x, what, sets);
        checks.same("29: its cost, " + what, x.cost(), cost);
    }

    private static void noCandidate() {
        greedily(new RoleMiner(), "no grants", 0);
        best(new RoleMiner(), "no grants", 0);
        greedily(Made.noCandidate(), "no candidate", 8);
        best(Made.noCandidate(), "no candidate", 8);
        RoleMiner x = Made.allGranted();
        greedily(x, "a role for all", 5, 4095);
        x.setConflict(0, 11, true);
        greedily(x, "no candidate any more", 192);
        x.setConflict(0, 11, false);
        best(x, "a role for all", 5, 4095);
        x.setConflict(0, 11, true);
        best(x, "no candidate any more", 192);
    }

    private static void oneCandidate() {
        for (int user : new int[] {0, 7}) {
            RoleMiner x = new RoleMiner();
            x.setGrants(user, 1);
            greedily(x, "too dear", 2);
            best(x, "too dear", 2);
            x.setCosts(1, 2);
            greedily(x, "the lowest permission", 1, 1);
            best(x, "the lowest permission", 1, 1);
            x.setGrants(user, 2048);
            greedily(x, "the highest permission", 1, 2048);
            best(x, "the highest permission", 1, 2048);
        }
    }

    /** "as long as it becomes less by some candidate": by 1, and by 0. */
    private static void onlyWhatBecomesLess() {
        RoleMiner x = new RoleMiner();
        x.setGrants(0, 3);
        x.setCosts(3, 2);
        greedily(x, "less by 1", 3, 3);
        best(x, "less by 1", 3, 3);
        x.setCosts(4, 2);
        greedily(x, "as much", 4);
        best(x, "as much", 4);
        x.setCosts(5, 2);
        greedily(x, "more", 4);
        best(x, "more", 4);
        // The second role, 3, would add one grant to what the first one covers.
        x.setGrants(1, 1);
        x.setCosts(1, 1);
        greedily(x, "the second as much", 2, 1);
        x.setCosts(2, 3);
        greedily(x, "the second less by 1", 4, 1, 3);
    }

    /** "of several the one with the lowest number" */
    private static void greedyTies() {
        RoleMiner x = new RoleMiner();
        x.setGrants(0, 2049);
        x.setGrants(1, 2050);
        x.setGrants(7, 2052);
        x.setCosts(5, 2);
        greedily(x, "2048 alone saves", 11, 2048);
        x.revoke(7, 11);
        x.setCosts(3, 2);
        // 2048, 2049 and 2050 save 1 each; when one is chosen, no other saves any more.
        greedily(x, "the lowest of three", 3 + 2 * 3, 2048);
        RoleMiner y = Made.twelveRolesNeeded();
        y.setCosts(1, 1);
        greedily(y, "all save 1 each", 12, 1, 2, 4, 8, 16, 32, 64, 128, 256, 512, 1024, 2048);
    }

    /** The lowest one also where another one, that lies higher, was chosen before. */
    private static void greedyTieAfterTheFirst() {
        RoleMiner x = new RoleMiner();
        x.setGrants(0, 3840);
        x.setGrants(1, 17);
        x.setGrants(7, 18);
        x.setCosts(3, 2);
        // 3840 saves 5; of 16, 17 and 18 each saves 1, and when 16 is chosen, no other does.
        greedily(x, "the lowest of what is left", 3 + 3 + 4, 16, 3840);
    }

    /** "beginning with no candidate chosen", whatever roles there are. */
    private static void greedyBeginsWithNone() {
        RoleMiner x = new RoleMiner();
        x.setCosts(1, 1);
        x.setGrants(0, 1);
        x.setGrants(1, 2);
        x.setGrants(2, 3);
        x.setGrants(3, 3);
        greedily(x, "3 saves most", 3, 3);
        best(x, "1 and 2 cover all", 2, 1, 2);
        greedily(x, "from none again", 3, 3);
        greedily(x, "once more", 3, 3);
    }

    private static void greedyWithTheMost() {
        RoleMiner x = Made.mostCandidates();
        x.setCosts(100, 0);
        greedily(x, "no exception costs", 0);
        x.setCosts(36, 1);
        greedily(x, "none of 255 saves", 88);
        x.setCosts(35, 1);
        // Six users share 36 grants, by sets that have two of the lowest eight permissions: first 0 and 1.
        greedily(x, "one of 255 saves 1", 87, 0xF03);
        x.setSupport(8);
        x.setCosts(5, 2);
        greedily(x, "what all share", 5 + 2 * 56, 0xF00);
    }

    private static void mostRolesGreedily() {
        PlainModel model = new PlainModel();
        RoleMiner x = Made.nineteenRolesGreedily();
        for (int user = 0; user < 8; user++) {
            model.setGrants(user, x.permissions(user));
        }
        for (int low = 0; low < 12; low++) {
            for (int high = low + 1; high < 12; high++) {
                boolean were = x.setConflict(low, high, true);
                x.setConflict(low, high, were);
                model.setConflict(low, high, were);
            }
        }
        model.setSupport(2);
        model.setCosts(0, 1);
        checks.same("11: nineteen roles, told by the plain model", x.mineGreedily(), model.mineGreedily());
        checks.same("24: nineteen roles", x.roles(), 19);
        for (int k = 0; k < 19; k++) {
            checks.same("25: role(" + k + ") of nineteen", x.role(k), model.role(k));
        }
        for (int k : Beyond.places(19)) {
            checks.outside("25: role(" + k + ") of nineteen", () -> x.role(k));
        }
        checks.same("13: nineteen dropped", x.dropRoles(), 19);
        laid(x, "nineteen dropped");
    }

    /** "of several the one with the fewest candidates" */
    private static void fewestOfTheCheapest() {
        RoleMiner x = new RoleMiner();
        x.setGrants(0, 3);
        x.setGrants(7, 3072);
        x.setCosts(2, 1);
        best(x, "none, rather than one or two", 4);
        x.setGrants(0, 7);
        best(x, "one, rather than two", 4, 7);
        x.setGrants(0, 3);
        x.setGrants(7, 3584);
        best(x, "one, though not the lowest", 4, 3584);
        x.setCosts(0, 0);
        best(x, "all for nothing", 0);
        fewerThoughHigher();
        RoleMiner y = Made.fourteenCandidates();
        y.setCosts(0, 1);
        best(y, "six, of all that cover all for nothing", 0, 9, 10, 12, 144, 160, 192);
    }

    /** 1 and 2 cost as much as 3 with two exceptions. */
    private static void fewerThoughHigher() {
        RoleMiner x = new RoleMiner();
        x.setGrants(0, 1);
        x.setGrants(1, 2);
        x.setGrants(2, 3);
        x.setGrants(7, 3);
        x.setCosts(2, 1);
        checks.same("22: two candidates", x.costOf(3), 4);
        checks.same("22: one candidate, a higher one", x.costOf(4), 4);
        best(x, "one, rather than two lower ones", 4, 3);
    }

    /** Users 1, 2 and 7 in need of a role: of three that are as good it is the lowest. */
    private static void three(RoleMiner x, int shift) {
        x.setGrants(1, 14 << shift);
        x.setGrants(2, 13 << shift);
        x.setGrants(7, 11 << shift);
    }

    /** "compared by their lowest candidates, then by their next ones" */
    private static void comparedByTheNext() {
        RoleMiner x = new RoleMiner();
        x.setCosts(7, 2);
        three(x, 0);
        x.setGrants(0, 240);
        best(x, "the lowest ones differ", 14 + 2 * 5, 9, 240);
        three(x, 8);
        best(x, "the last ones differ", 14 + 2 * 5, 240, 9 << 8);
    }

    /** ".. and so on" */
    private static void comparedByTheThird() {
        RoleMiner x = new RoleMiner();
        x.setCosts(7, 2);
        x.setGrants(0, 15);
        x.setGrants(3, 240);
        three(x, 8);
        best(x, "the third ones differ", 21 + 2 * 5, 15, 240, 9 << 8);
        x.setGrants(3, 3840);
        three(x, 4);
        best(x, "the second ones differ", 21 + 2 * 5, 15, 9 << 4, 3840);
        x.setGrants(0, 240);
        three(x, 0);
        best(x, "the first ones differ", 21 + 2 * 5, 9, 240, 3840);
    }

    /** A lower one at the first difference counts, however high the others are. */
    private static void comparedAcross() {
        for (int shift : new int[] {0, 8}) {
            RoleMiner x = new RoleMiner();
            x.setGrants(0, 2 << shift);
            x.setGrants(1, 6 << shift);
            x.setGrants(2, 15 << shift);
            x.setGrants(3, 8 << shift);
            x.setCosts(1, 1);
            // 2 and 15, 6 and 8, 6 and 15 leave two exceptions each.
            best(x, "by the first, shift " + shift, 4, 2 << shift, 15 << shift);
            int sign = shift == 0 ? 3840 : 15;
            x.setGrants(7, sign);
            if (shift == 0) {
                best(x, "with another one above", 5, 2, 15, sign);
            } else {
                best(x, "with another one below", 5, sign, 2 << shift, 15 << shift);
            }
        }
    }

    private static void fourteen() {
        RoleMiner x = Made.fourteenCandidates();
        best(x, "of fourteen", 28, 9, 10, 144, 160);
        RoleMiner y = Made.fourteenCandidates();
        y.setGrants(6, 8);
        y.setGrants(7, 224);
        y.setCosts(6, 2);
        checks.same("19: still fourteen", y.candidates(), 14);
        best(y, "the first one and the last one of fourteen", 34, 8, 144, 224);
    }

    /** "if there are more than 14 candidates" */
    private static void fifteen() {
        RoleMiner x = Made.fifteenCandidates();
        checks.fails("12: of fifteen", IllegalStateException.class, () -> x.mineBest());
        laid(x, "nothing laid");
        greedily(x, "of fifteen", 30, 9, 10, 144, 160);
        checks.fails("12: of fifteen, with roles", IllegalStateException.class, () -> x.mineBest());
        laid(x, "the roles stay", 9, 10, 144, 160);
        x.setSupport(2);
        best(x, "fewer by the support", 30, 9, 10, 144, 160);
        RoleMiner y = Made.mostCandidates();
        checks.fails("12: of 255", IllegalStateException.class, () -> y.mineBest());
        laid(y, "nothing laid of 255");
    }

    private static void mostRoles() {
        RoleMiner x = Made.twelveRolesNeeded();
        x.setCosts(1, 1);
        best(x, "all candidates", 12, 1, 2, 4, 8, 16, 32, 64, 128, 256, 512, 1024, 2048);
        checks.same("13: twelve dropped", x.dropRoles(), 12);
        laid(x, "twelve dropped");
        x.setCosts(2, 1);
        best(x, "as cheap without", 24);
    }

    private static void edgesOfCosts() {
        RoleMiner x = Made.fourteenCandidates();
        x.setCosts(100, 100);
        best(x, "the highest costs", 600, 9, 10, 12, 144, 160, 192);
        greedily(x, "the highest costs", 600, 9, 10, 12, 144, 160, 192);
        x.setCosts(100, 0);
        best(x, "no cost for exceptions", 0);
        greedily(x, "no cost for exceptions", 0);
        x.setCosts(0, 0);
        best(x, "no costs", 0);
        greedily(x, "no costs", 0);
        x.setCosts(0, 100);
        greedily(x, "no cost for roles", 0, 9, 10, 12, 144, 160, 192);
        RoleMiner y = Made.noCandidate();
        y.setCosts(100, 100);
        greedily(y, "all are exceptions", 400);
    }

    /** "Lays the roles": the former ones go, be they more or fewer. */
    private static void rolesAreLaidAnew() {
        RoleMiner x = Made.allGranted();
        best(x, "one", 5, 4095);
        for (int user = 0; user < 8; user++) {
            x.setGrants(user, 1 << user);
        }
        x.setCosts(1, 2);
        best(x, "eight, and not the former one", 8, 1, 2, 4, 8, 16, 32, 64, 128);
        x.setGrants(7, 2048);
        greedily(x, "eight, with the grants of now", 8, 1, 2, 4, 8, 16, 32, 64, 2048);
        x.setCosts(2, 2);
        greedily(x, "none instead of eight", 16);
    }

    /** "Returns how many there were.": none, one, and after dropping none again. */
    private static void dropRoles() {
        RoleMiner x = new RoleMiner();
        checks.same("13: of a new object", x.dropRoles(), 0);
        x.setGrants(7, 4095);
        x.mineBest();
        checks.same("13: one", x.dropRoles(), 1);
        checks.same("13: none any more", x.dropRoles(), 0);
        laid(x, "dropped");
        checks.same("13: the grants stay", x.permissions(7), 4095);
        checks.same("13: the candidates stay", x.candidates(), 1);
        x.mineGreedily();
        checks.same("13: one again", x.dropRoles(), 1);
    }
}
