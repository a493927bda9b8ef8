/** The edges that the document names for candidates and what choices of them cost: promises 19 to 23. */
public final class EdgesOfCandidatesTest {
    private static final Checks checks = new Checks();

    public static void main(String[] args) {
        noCandidate();
        emptySet();
        fullSet();
        justWhatIsShared();
        proper();
        atTheSupport();
        mostCandidates();
        holdersOfTheEmptySet();
        holdersOfTheFullSet();
        holdersOfEachPermission();
        wrongSets();
        emptyChoiceOfNone();
        oneCandidate();
        fourteen();
        fifteen();
        fourteenAgain();
        edgesOfCosts();
        coveredTwice();
        eachChoiceIsTried();
        checks.end();
    }

    private static void are(RoleMiner x, String what, int... sets) {
        checks.same("19: " + what, x.candidates(), sets.length);
        for (int k = 0; k < sets.length && k < x.candidates(); k++) {
            checks.same("20: " + what + ", candidate(" + k + ")", x.candidate(k), sets[k]);
        }
        for (int k : Beyond.places(sets.length)) {
            checks.outside("20: " + what + ", candidate(" + k + ")", () -> x.candidate(k));
        }
    }

    private static void tooMany(RoleMiner x, String what) {
        checks.fails("12: " + what + ", mineBest()", IllegalStateException.class, () -> x.mineBest());
        checks.fails("22: " + what + ", costOf(0)", IllegalStateException.class, () -> x.costOf(0));
        checks.fails("22: " + what + ", costOf(-1)", IllegalStateException.class, () -> x.costOf(-1));
        checks.fails("23: " + what + ", leastCost()", IllegalStateException.class, () -> x.leastCost());
    }

    private static void noChoices(RoleMiner x, int many) {
        for (int choice : Beyond.choices(many)) {
            checks.fails("22: of " + many + ", costOf(" + choice + ")", IllegalArgumentException.class,
                () -> x.costOf(choice));
        }
    }

    private static void noCandidate() {
        are(new RoleMiner(), "no grants");
        are(Made.noCandidate(), "all in conflict");
        RoleMiner x = new RoleMiner();
        x.setGrants(7, 2048);
        are(x, "one grant", 2048);
        x.revoke(7, 11);
        are(x, "no grant any more");
    }

    /** "if it is not empty": what users without grants, or with nothing in common, share. */
    private static void emptySet() {
        RoleMiner x = new RoleMiner();
        x.setGrants(0, 1);
        x.setGrants(7, 2048);
        are(x, "nothing in common", 1, 2048);
        for (int user = 1; user < 7; user++) {
            x.setGrants(user, 1 << user);
        }
        are(x, "nothing in common of any two", 1, 2, 4, 8, 16, 32, 64, 2048);
    }

    private static void fullSet() {
        RoleMiner x = new RoleMiner();
        x.setGrants(7, 4095);
        are(x, "all of one", 4095);
        x.setGrants(7, 4094);
        are(x, "all but one", 4094);
        RoleMiner y = Made.allGranted();
        are(y, "all of all", 4095);
        y.setConflict(0, 11, true);
        are(y, "all of all, in conflict");
    }

    /** "is just the set of all permissions that all users of some set of users have in common" */
    private static void justWhatIsShared() {
        RoleMiner x = new RoleMiner();
        x.setGrants(0, 2049);
        are(x, "no part of what one has", 2049);
        x.setGrants(7, 2050);
        are(x, "what two share", 2048, 2049, 2050);
        x.setGrants(3, 2051);
        are(x, "what three share, and two", 2048, 2049, 2050, 2051);
        x.setGrants(0, 0);
        x.setGrants(7, 0);
        are(x, "no parts any more", 2051);
        x.setGrants(0, 3);
        are(x, "a part that somebody has alone", 3, 2051);
        RoleMiner y = new RoleMiner();
        y.setGrants(0, 1);
        y.setGrants(7, 2048);
        are(y, "nor what several have together", 1, 2048);
    }

    /** "A set of permissions is proper if no two of it are in conflict." */
    private static void proper() {
        RoleMiner x = new RoleMiner();
        Made.allConflicts(x, true);
        for (int permission = 0; permission < 8; permission++) {
            x.setGrants(permission, 1 << permission + 4);
        }
        are(x, "one permission each", 16, 32, 64, 128, 256, 512, 1024, 2048);
        x.setGrants(0, 2049);
        are(x, "the lowest and the highest", 32, 64, 128, 256, 512, 1024, 2048);
        x.setConflict(11, 0, false);
        are(x, "not in conflict any more", 32, 64, 128, 256, 512, 1024, 2048, 2049);
        x.setGrants(0, 2113);
        are(x, "two conflicts with a third", 32, 64, 128, 256, 512, 1024, 2048);
        x.setConflict(0, 6, false);
        are(x, "one conflict with a third", 32, 64, 128, 256, 512, 1024, 2048);
        x.setConflict(6, 11, false);
        are(x, "none of three", 32, 64, 128, 256, 512, 1024, 2048, 2113);
    }

    /** "has as many holders as the support .., or more": holders, also those that the set of users has not. */
    private static void atTheSupport() {
        RoleMiner x = Made.allGranted();
        x.setSupport(8);
        are(x, "all of all eight", 4095);
        x.revoke(7, 11);
        are(x, "what all eight share", 2047);
        x.setSupport(7);
        are(x, "and what seven share", 2047, 4095);
        x.revoke(0, 11);
        are(x, "shared by six only", 2047);
        x.setSupport(6);
        are(x, "shared by six", 2047, 4095);
        x.setSupport(1);
        are(x, "one or more", 2047, 4095);
        RoleMiner y = new RoleMiner();
        y.setSupport(2);
        y.setGrants(0, 3);
        are(y, "of one");
        y.setGrants(7, 3);
        are(y, "of two", 3);
        y.revoke(7, 1);
        are(y, "a part of two", 1);
    }

    /** "Candidates are numbered from 0 on, by rising numbers of their sets.", all 255. */
    private static void mostCandidates() {
        RoleMiner x = Made.mostCandidates();
        checks.same("19: the most", x.candidates(), 255);
        for (int k = 0; k < 255; k++) {
            checks.same("20: candidate(" + k + ") of 255", x.candidate(k), 0xF00 + k);
        }
        for (int k : Beyond.places(255)) {
            checks.outside("20: candidate(" + k + ") of 255", () -> x.candidate(k));
        }
        tooMany(x, "255");
        int[] counts = {255, 247, 219, 163, 93, 37, 9, 1};
        for (int support = 1; support <= 8; support++) {
            x.setSupport(support);
            checks.same("19: with support " + support, x.candidates(), counts[support - 1]);
        }
        checks.same("20: what all eight share", x.candidate(0), 0xF00);
        checks.outside("20: that alone", () -> x.candidate(1));
    }

    /** "all users for the empty set" */
    private static void holdersOfTheEmptySet() {
        RoleMiner x = new RoleMiner();
        checks.same("21: without grants", x.holders(0), 255);
        x.setGrants(7, 2048);
        x.setSupport(8);
        checks.same("21: with a grant", x.holders(0), 255);
        checks.same("21: with all grants", Made.allGranted().holders(0), 255);
    }

    private static void holdersOfTheFullSet() {
        RoleMiner x = new RoleMiner();
        checks.same("21: all permissions, nobody", x.holders(4095), 0);
        x.setGrants(0, 4095);
        checks.same("21: all permissions, user 0", x.holders(4095), 1);
        x.setGrants(7, 4095);
        checks.same("21: all permissions, and user 7", x.holders(4095), 129);
        x.revoke(0, 0);
        checks.same("21: all but the lowest", x.holders(4095), 128);
        checks.same("21: but the others", x.holders(4094), 129);
        x.revoke(7, 11);
        checks.same("21: all but the highest", x.holders(4095), 0);
        checks.same("21: all permissions of all", Made.allGranted().holders(4095), 255);
    }

    private static void holdersOfEachPermission() {
        RoleMiner x = Made.twelveRolesNeeded();
        x.setSupport(8);
        for (int permission = 0; permission < 12; permission++) {
            int other = permission < 8 ? (permission + 1) % 8 : permission - 4;
            int due = 1 << permission % 8 | 1 << other;
            checks.same("21: no candidate, holders(" + (1 << permission) + ")", x.holders(1 << permission), due);
        }
        checks.same("21: a set in conflict", x.holders(257), 1);
    }

    private static void wrongSets() {
        RoleMiner x = Made.allGranted();
        for (int set : Beyond.SETS) {
            checks.fails("21: holders(" + set + ")", IllegalArgumentException.class, () -> x.holders(set));
        }
    }

    private static void emptyChoiceOfNone() {
        RoleMiner x = new RoleMiner();
        checks.same("22: no grants", x.costOf(0), 0);
        checks.same("23: no grants", x.leastCost(), 0);
        noChoices(x, 0);
        RoleMiner y = Made.noCandidate();
        checks.same("22: no candidate", y.costOf(0), 8);
        checks.same("23: no candidate", y.leastCost(), 8);
        noChoices(y, 0);
    }

    private static void oneCandidate() {
        RoleMiner x = Made.allGranted();
        checks.same("22: not the one", x.costOf(0), 192);
        checks.same("22: the one", x.costOf(1), 5);
        checks.same("23: of one", x.leastCost(), 5);
        noChoices(x, 1);
    }

    /** "if there are more than 14 candidates": with 14 each choice has a cost. */
    private static void fourteen() {
        RoleMiner x = Made.fourteenCandidates();
        are(x, "fourteen", 8, 9, 10, 11, 12, 13, 14, 128, 144, 160, 176, 192, 208, 224);
        checks.same("22: none of fourteen", x.costOf(0), 36);
        int[] covered = {3, 4, 4, 3, 4, 3, 3};
        for (int k = 0; k < 14; k++) {
            checks.same("22: only " + k + " of fourteen", x.costOf(1 << k), 5 + 36 - 2 * covered[k % 7]);
            checks.same("22: all of fourteen but " + k, x.costOf(16383 - (1 << k)), 65);
        }
        checks.same("22: all of fourteen", x.costOf(16383), 70);
        checks.same("23: of fourteen", x.leastCost(), 28);
        noChoices(x, 14);
    }

    private static void fifteen() {
        RoleMiner x = Made.fifteenCandidates();
        checks.same("19: fifteen", x.candidates(), 15);
        tooMany(x, "fifteen");
        for (int choice : Beyond.choices(14)) {
            checks.fails("22: the first named, costOf(" + choice + ")", IllegalStateException.class,
                () -> x.costOf(choice));
        }
        for (int choice : new int[] {1, 16383, 16384, 32767}) {
            checks.fails("22: of fifteen, costOf(" + choice + ")", IllegalStateException.class,
                () -> x.costOf(choice));
        }
    }

    /** Candidates are those of now: by a conflict, a setting or a grant less they are few enough again. */
    private static void fourteenAgain() {
        RoleMiner x = Made.fifteenCandidates();
        x.setConflict(1, 2, true);
        checks.same("22: a conflict", x.costOf(0), 38);
        x.setConflict(1, 2, false);
        tooMany(x, "the conflict ended");
        x.revoke(6, 11);
        checks.same("22: a grant less", x.costOf(16383), 70);
        x.grant(6, 11);
        tooMany(x, "granted again");
        x.setSupport(2);
        checks.same("23: a higher support", x.leastCost(), 30);
        x.setSupport(1);
        tooMany(x, "the support is lower");
        x.setPeriod(1);
        x.nextQuarter();
        checks.same("22: all lapsed", x.costOf(0), 0);
    }

    private static void edgesOfCosts() {
        RoleMiner x = Made.allGranted();
        x.setCosts(100, 100);
        checks.same("22: the highest cost of exceptions", x.costOf(0), 9600);
        checks.same("22: the highest cost of a role", x.costOf(1), 100);
        x.setCosts(100, 0);
        checks.same("22: exceptions for nothing", x.costOf(0), 0);
        checks.same("23: exceptions for nothing", x.leastCost(), 0);
        x.setCosts(0, 100);
        checks.same("22: a role for nothing", x.costOf(1), 0);
        checks.same("23: a role for nothing", x.leastCost(), 0);
        x.setCosts(0, 0);
        checks.same("22: all for nothing", x.costOf(0) + x.costOf(1), 0);
        RoleMiner y = Made.fourteenCandidates();
        y.setCosts(100, 100);
        checks.same("22: the highest cost of fourteen", y.costOf(16383), 1400);
        checks.same("22: and of none of them", y.costOf(0), 1800);
        checks.same("23: at the highest costs", y.leastCost(), 600);
    }

    /** "It covers a grant, if the user holds one of its candidates that has the permission." */
    private static void coveredTwice() {
        RoleMiner x = new RoleMiner();
        x.setGrants(0, 3);
        x.setGrants(1, 6);
        x.setGrants(7, 7);
        are(x, "which cross", 2, 3, 6, 7);
        checks.same("22: one of three users' grants each", x.costOf(1), 5 + 2 * 4);
        checks.same("22: what a user has not all of covers nothing", x.costOf(8), 5 + 2 * 4);
        checks.same("22: covered twice is covered", x.costOf(6), 10);
        checks.same("22: covered by all", x.costOf(15), 20);
    }

    /** "Returns the least cost of all choices, each of them being tried." */
    private static void eachChoiceIsTried() {
        RoleMiner x = Made.twelveRolesNeeded();
        x.setCosts(1, 1);
        checks.same("23: the choice of all is the cheapest", x.leastCost(), 12);
        checks.same("22: of all", x.costOf(4095), 12);
        x.setCosts(2, 1);
        checks.same("23: each is as cheap", x.leastCost(), 24);
        x.setCosts(3, 1);
        checks.same("23: the empty one is the cheapest", x.leastCost(), 24);
        checks.same("22: of none", x.costOf(0), 24);
        for (int role : new int[] {0, 1, 5, 8, 12, 100}) {
            leastOfSixtyFour(role);
        }
    }

    private static void leastOfSixtyFour(int role) {
        RoleMiner x = new RoleMiner();
        x.setGrants(0, 119);
        x.setGrants(1, 2032);
        x.setGrants(7, 3855);
        are(x, "each has its own set and shares two", 7, 112, 119, 1792, 2032, 3855);
        x.setCosts(role, 2);
        int least = Integer.MAX_VALUE;
        for (int choice = 0; choice < 64; choice++) {
            least = Math.min(least, x.costOf(choice));
        }
        checks.same("23: the least of 64, a role costs " + role, x.leastCost(), least);
    }
}
