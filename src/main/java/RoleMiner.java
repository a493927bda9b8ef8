/**
 * A finder of roles: it mines, from the permissions that users have, sets of permissions that cover
 * the grants as cheaply as possible.
 *
 * Sets are ints with a bit for each member: bit p for permission p, bit u for user u.
 */
public final class RoleMiner {
    private static final int USERS = 8;
    private static final int PERMISSIONS = 12;
    private static final int ALL_USERS = 255;
    private static final int ALL_PERMISSIONS = 4095;
    /** Two longs hold all grants, twelve bits a user: four users in the low one, four in the high one. */
    private static final int USERS_IN_LOW = 4;
    /** A candidate is told by the set of all its holders, and 255 sets of users are not empty. */
    private static final int MOST_CANDIDATES = 255;
    /** The most candidates of which all choices are tried. */
    private static final int MOST_TRIED = 14;
    private static final int HIGHEST_COST = 100;
    private static final int HIGHEST_SUPPORT = 8;
    private static final int LONGEST_PERIOD = 8;
    private static final int LAST_QUARTER = 100;

    /** The permissions of each user. */
    private final int[] granted;
    /** The quarter that each grant remembers, at grantIndex; without meaning where nothing is granted. */
    private final int[] remembered;
    /** For each permission those in conflict with it. */
    private final int[] opposed;

    private int roleCost;
    private int exceptionCost;
    private int support;
    private int period;
    private int quarter;

    private final int[] roleSets;
    private int roleCount;

    /*
     * From here on only what findCandidates finds; it holds until grants, conflicts or the support
     * change, so every call that needs it finds it anew.
     */
    private final int[] candidateSets;
    private int candidateCount;
    /** The grants that each candidate covers. */
    private final long[] lowCover;
    private final long[] highCover;
    /**
     * At k, the grants that are left by the latest choice tried whose lowest candidate is k; at
     * MOST_TRIED those that the empty choice leaves: all.
     */
    private final long[] lowLeft;
    private final long[] highLeft;

    public RoleMiner() {
        granted = new int[USERS];
        remembered = new int[USERS * PERMISSIONS];
        opposed = new int[PERMISSIONS];
        roleCost = 5;
        exceptionCost = 2;
        support = 1;
        period = 4;
        quarter = 0;
        roleSets = new int[MOST_CANDIDATES];
        roleCount = 0;
        candidateSets = new int[MOST_CANDIDATES];
        candidateCount = 0;
        lowCover = new long[MOST_CANDIDATES];
        highCover = new long[MOST_CANDIDATES];
        lowLeft = new long[MOST_TRIED + 1];
        highLeft = new long[MOST_TRIED + 1];
    }

    // ---- grants and conflicts

    public boolean grant(int user, int permission) throws IndexOutOfBoundsException {
        if (!isUser(user) || !isPermission(permission)) {
            throw new IndexOutOfBoundsException("no such user or permission");
        }
        if (has(granted[user], permission)) {
            return false;
        }
        granted[user] |= 1 << permission;
        remembered[grantIndex(user, permission)] = quarter;
        return true;
    }

    public boolean revoke(int user, int permission) throws IndexOutOfBoundsException {
        if (!isUser(user) || !isPermission(permission)) {
            throw new IndexOutOfBoundsException("no such user or permission");
        }
        boolean before = has(granted[user], permission);
        granted[user] &= ~(1 << permission);
        return before;
    }

    public int setGrants(int user, int permissions) throws IndexOutOfBoundsException, IllegalArgumentException {
        if (!isUser(user)) {
            throw new IndexOutOfBoundsException("no such user");
        }
        if (!isPermissionSet(permissions)) {
            throw new IllegalArgumentException("permissions is not 0 to 4095");
        }
        int before = granted[user];
        for (int permission = 0; permission < PERMISSIONS; permission++) {
            if (has(permissions & ~before, permission)) {
                remembered[grantIndex(user, permission)] = quarter;
            }
        }
        granted[user] = permissions;
        return Integer.bitCount(before ^ permissions);
    }

    public boolean setConflict(int permission, int other, boolean conflict)
            throws IndexOutOfBoundsException, IllegalArgumentException {
        if (!isPermission(permission) || !isPermission(other)) {
            throw new IndexOutOfBoundsException("no such permission");
        }
        if (permission == other) {
            throw new IllegalArgumentException("both permissions are the same");
        }
        boolean before = has(opposed[permission], other);
        if (conflict) {
            opposed[permission] |= 1 << other;
            opposed[other] |= 1 << permission;
        } else {
            opposed[permission] &= ~(1 << other);
            opposed[other] &= ~(1 << permission);
        }
        return before;
    }

    // ---- settings

    public void setCosts(int role, int exception) throws IllegalArgumentException {
        if (!isCost(role) || !isCost(exception)) {
            throw new IllegalArgumentException("a cost is not 0 to 100");
        }
        roleCost = role;
        exceptionCost = exception;
    }

    public int setSupport(int holders) throws IllegalArgumentException {
        if (holders < 1 || holders > HIGHEST_SUPPORT) {
            throw new IllegalArgumentException("the support is not 1 to 8");
        }
        int before = support;
        support = holders;
        return before;
    }

    public int setPeriod(int quarters) throws IllegalArgumentException {
        if (quarters < 1 || quarters > LONGEST_PERIOD) {
            throw new IllegalArgumentException("the period is not 1 to 8");
        }
        int before = period;
        period = quarters;
        return before;
    }

    // ---- reviews

    public int review(int user, int permission) throws IndexOutOfBoundsException, IllegalStateException {
        if (!isUser(user) || !isPermission(permission)) {
            throw new IndexOutOfBoundsException("no such user or permission");
        }
        if (!has(granted[user], permission)) {
            throw new IllegalStateException("the permission is not granted");
        }
        int index = grantIndex(user, permission);
        int age = quarter - remembered[index];
        remembered[index] = quarter;
        return age;
    }

    public int nextQuarter() throws IllegalStateException {
        if (quarter >= LAST_QUARTER) {
            throw new IllegalStateException("the quarter is 100");
        }
        quarter++;
        int lapsed = 0;
        for (int user = 0; user < USERS; user++) {
            int lapsing = lapsingIn(quarter, user);
            granted[user] &= ~lapsing;
            lapsed += Integer.bitCount(lapsing);
        }
        return lapsed;
    }

    // ---- mining: the roles are laid

    public int mineGreedily() {
        findCandidates();
        roleCount = 0;
        long low = lowLeft[MOST_TRIED];
        long high = highLeft[MOST_TRIED];
        // A candidate that is chosen covers nothing more a second time, so each is chosen once at most.
        for (int round = 0; round < candidateCount; round++) {
            int next = mostSavingCandidate(low, high);
            if (next < 0 || next >= candidateCount) {
                break;
            }
            roleCount = insertInOrder(roleSets, roleCount, candidateSets[next]);
            low &= ~lowCover[next];
            high &= ~highCover[next];
        }
        return costWith(roleCount, low, high);
    }

    public int mineBest() throws IllegalStateException {
        findCandidates();
        if (candidateCount > MOST_TRIED) {
            throw new IllegalStateException("more than 14 candidates");
        }
        int best = bestChoice();
        roleCount = 0;
        for (int k = 0; k < candidateCount; k++) {
            if (has(best, k)) {
                roleCount = insertInOrder(roleSets, roleCount, candidateSets[k]);
            }
        }
        return costOfChoice(best);
    }

    public int dropRoles() {
        int before = roleCount;
        roleCount = 0;
        return before;
    }

    // ---- grants as they are; nothing from here on changes anything

    public int permissions(int user) throws IndexOutOfBoundsException {
        if (!isUser(user)) {
            throw new IndexOutOfBoundsException("no such user");
        }
        return granted[user];
    }

    public int grants() {
        int count = 0;
        for (int user = 0; user < USERS; user++) {
            count += Integer.bitCount(granted[user]);
        }
        return count;
    }

    public int violations(int user) throws IndexOutOfBoundsException {
        if (!isUser(user)) {
            throw new IndexOutOfBoundsException("no such user");
        }
        int ends = 0;
        for (int permission = 0; permission < PERMISSIONS; permission++) {
            if (has(granted[user], permission)) {
                ends += Integer.bitCount(opposed[permission] & granted[user]);
            }
        }
        // Each pair was met from both its ends.
        return ends / 2;
    }

    public int quarter() {
        return quarter;
    }

    public int due(int user) throws IndexOutOfBoundsException {
        if (!isUser(user)) {
            throw new IndexOutOfBoundsException("no such user");
        }
        return lapsingIn(quarter + 1, user);
    }

    // ---- candidates

    public int candidates() {
        findCandidates();
        return candidateCount;
    }

    public int candidate(int k) throws IndexOutOfBoundsException {
        findCandidates();
        if (k < 0 || k >= candidateCount) {
            throw new IndexOutOfBoundsException("no such candidate");
        }
        return candidateSets[k];
    }

    public int holders(int permissions) throws IllegalArgumentException {
        if (!isPermissionSet(permissions)) {
            throw new IllegalArgumentException("permissions is not 0 to 4095");
        }
        return holdersOf(permissions);
    }

    public int costOf(int choice) throws IllegalStateException, IllegalArgumentException {
        findCandidates();
        if (candidateCount > MOST_TRIED) {
            throw new IllegalStateException("more than 14 candidates");
        }
        if (choice < 0 || choice >= 1 << candidateCount) {
            throw new IllegalArgumentException("the choice has a bit of no candidate");
        }
        return costOfChoice(choice);
    }

    public int leastCost() throws IllegalStateException {
        findCandidates();
        if (candidateCount > MOST_TRIED) {
            throw new IllegalStateException("more than 14 candidates");
        }
        return costOfChoice(bestChoice());
    }

    // ---- roles

    public int roles() {
        return roleCount;
    }

    public int role(int k) throws IndexOutOfBoundsException {
        if (k < 0 || k >= roleCount) {
            throw new IndexOutOfBoundsException("no such role");
        }
        return roleSets[k];
    }

    public int rolesOf(int user) throws IndexOutOfBoundsException {
        if (!isUser(user)) {
            throw new IndexOutOfBoundsException("no such user");
        }
        int count = 0;
        for (int k = 0; k < roleCount; k++) {
            if (holds(user, roleSets[k])) {
                count++;
            }
        }
        return count;
    }

    public int byRoles(int user) throws IndexOutOfBoundsException {
        if (!isUser(user)) {
            throw new IndexOutOfBoundsException("no such user");
        }
        return joinedRoles(user);
    }

    public int exceptions(int user) throws IndexOutOfBoundsException {
        if (!isUser(user)) {
            throw new IndexOutOfBoundsException("no such user");
        }
        return granted[user] & ~joinedRoles(user);
    }

    public int cost() {
        int left = 0;
        for (int user = 0; user < USERS; user++) {
            left += Integer.bitCount(granted[user] & ~joinedRoles(user));
        }
        return roleCost * roleCount + exceptionCost * left;
    }

    public boolean isRisky(int k) throws IndexOutOfBoundsException {
        if (k < 0 || k >= roleCount) {
            throw new IndexOutOfBoundsException("no such role");
        }
        for (int other = 0; other < roleCount; other++) {
            int both = roleSets[k] | roleSets[other];
            if (other != k && !isProper(both) && holdersOf(both) != 0) {
                return true;
            }
        }
        return false;
    }

    // ---- what arguments may be

    private static boolean isUser(int user) {
        return user >= 0 && user < USERS;
    }

    private static boolean isPermission(int permission) {
        return permission >= 0 && permission < PERMISSIONS;
    }

    private static boolean isPermissionSet(int permissions) {
        return permissions >= 0 && permissions <= ALL_PERMISSIONS;
    }

    private static boolean isCost(int cost) {
        return cost >= 0 && cost <= HIGHEST_COST;
    }

    // ---- grants and sets

    private static boolean has(int set, int number) {
        return (set >> number & 1) != 0;
    }

    private static int grantIndex(int user, int permission) {
        return user * PERMISSIONS + permission;
    }

    /** Keeps the first count numbers of a row rising; returns how many they are then. */
    private static int insertInOrder(int[] row, int count, int number) {
        if (count < 0 || count >= row.length) {
            return count;
        }
        int at = count;
        for (; at > 0 && row[at - 1] > number; at--) {
            row[at] = row[at - 1];
        }
        row[at] = number;
        return count + 1;
    }

    private boolean holds(int user, int set) {
        return (granted[user] & set) == set;
    }

    private int holdersOf(int set) {
        int holders = 0;
        for (int user = 0; user < USERS; user++) {
            if (holds(user, set)) {
                holders |= 1 << user;
            }
        }
        return holders;
    }

    private int sharedBy(int users) {
        int shared = ALL_PERMISSIONS;
        for (int user = 0; user < USERS; user++) {
            if (has(users, user)) {
                shared &= granted[user];
            }
        }
        return shared;
    }

    private boolean isProper(int set) {
        for (int permission = 0; permission < PERMISSIONS; permission++) {
            if (has(set, permission) && (opposed[permission] & set) != 0) {
                return false;
            }
        }
        return true;
    }

    private int lapsingIn(int begun, int user) {
        int lapsing = 0;
        for (int permission = 0; permission < PERMISSIONS; permission++) {
            int age = begun - remembered[grantIndex(user, permission)];
            if (has(granted[user], permission) && age >= period) {
                lapsing |= 1 << permission;
            }
        }
        return lapsing;
    }

    // ---- roles that are laid

    private int joinedRoles(int user) {
        int joined = 0;
        for (int k = 0; k < roleCount; k++) {
            if (holds(user, roleSets[k])) {
                joined |= roleSets[k];
            }
        }
        return joined;
    }

    // ---- candidates and what choices of them cost

    private void findCandidates() {
        candidateCount = 0;
        for (int users = 1; users <= ALL_USERS; users++) {
            int set = sharedBy(users);
            // Several sets of users can share the same set; only that of all its holders counts.
            boolean areAllHolders = holdersOf(set) == users;
            if (areAllHolders && set != 0 && Integer.bitCount(users) >= support && isProper(set)) {
                candidateCount = insertInOrder(candidateSets, candidateCount, set);
            }
        }
        for (int k = 0; k < candidateCount; k++) {
            findCover(k);
        }
        findAllLeft();
    }

    private void findCover(int k) {
        int set = candidateSets[k];
        long low = 0;
        long high = 0;
        for (int user = 0; user < USERS; user++) {
            if (holds(user, set)) {
                low |= lowPart(user, set);
                high |= highPart(user, set);
            }
        }
        lowCover[k] = low;
        highCover[k] = high;
    }

    private void findAllLeft() {
        long low = 0;
        long high = 0;
        for (int user = 0; user < USERS; user++) {
            low |= lowPart(user, granted[user]);
            high |= highPart(user, granted[user]);
        }
        lowLeft[MOST_TRIED] = low;
        highLeft[MOST_TRIED] = high;
    }

    private static long lowPart(int user, int set) {
        return user < USERS_IN_LOW ? (long) set << PERMISSIONS * user : 0;
    }

    private static long highPart(int user, int set) {
        return user >= USERS_IN_LOW ? (long) set << PERMISSIONS * (user - USERS_IN_LOW) : 0;
    }

    private int costWith(int chosen, long low, long high) {
        return roleCost * chosen + exceptionCost * (Long.bitCount(low) + Long.bitCount(high));
    }

    private int costOfChoice(int choice) {
        long low = lowLeft[MOST_TRIED];
        long high = highLeft[MOST_TRIED];
        for (int k = 0; k < candidateCount && k < MOST_TRIED; k++) {
            if (has(choice, k)) {
                low &= ~lowCover[k];
                high &= ~highCover[k];
            }
        }
        return costWith(Integer.bitCount(choice), low, high);
    }

    /** Returns -1 if no candidate makes the cost less, with these grants left so far. */
    private int mostSavingCandidate(long low, long high) {
        int most = -1;
        int mostSaved = 0;
        for (int k = 0; k < candidateCount; k++) {
            int covered = Long.bitCount(low & lowCover[k]) + Long.bitCount(high & highCover[k]);
            int saved = exceptionCost * covered - roleCost;
            if (saved > mostSaved) {
                most = k;
                mostSaved = saved;
            }
        }
        return most;
    }

    /** Tries every choice; there are no more than MOST_TRIED candidates. */
    private int bestChoice() {
        int end = 1 << Math.min(candidateCount, MOST_TRIED);
        int best = 0;
        int bestCost = costOfChoice(0);
        for (int choice = 1; choice < end; choice++) {
            int lowest = Math.min(Integer.numberOfTrailingZeros(choice), MOST_TRIED - 1);
            // The choice without its lowest candidate came earlier, and what it left still stands.
            int rest = Math.min(Integer.numberOfTrailingZeros(choice & (choice - 1)), MOST_TRIED);
            lowLeft[lowest] = lowLeft[rest] & ~lowCover[lowest];
            highLeft[lowest] = highLeft[rest] & ~highCover[lowest];
            int cost = costWith(Integer.bitCount(choice), lowLeft[lowest], highLeft[lowest]);
            if (cost < bestCost || cost == bestCost && comesBefore(choice, best)) {
                best = choice;
                bestCost = cost;
            }
        }
        return best;
    }

    /** Whether, at the same cost, a choice is laid rather than another one. */
    private static boolean comesBefore(int choice, int other) {
        int fewer = Integer.bitCount(other) - Integer.bitCount(choice);
        if (fewer != 0) {
            return fewer > 0;
        }
        // Of two choices of equally many, that one has the lower candidates that has the lowest in which they differ.
        int differing = choice ^ other;
        return (Integer.lowestOneBit(differing) & choice) != 0;
    }
}
