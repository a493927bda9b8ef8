import java.util.ArrayList;
import java.util.Collection;
import java.util.List;
import java.util.Set;
import java.util.TreeSet;

/**
 * The document word by word, with sets of Java's library and no thought for speed: what the class
 * answers is compared with it.
 */
final class PlainModel {
    final List<Set<Integer>> granted = new ArrayList<>();
    final int[][] remembered = new int[8][12];
    final boolean[][] conflict = new boolean[12][12];
    int roleCost = 5;
    int exceptionCost = 2;
    int support = 1;
    int period = 4;
    int quarter = 0;
    List<Integer> roles = new ArrayList<>();

    PlainModel() {
        for (int user = 0; user < 8; user++) {
            granted.add(new TreeSet<>());
        }
    }

    static Set<Integer> members(int bits) {
        Set<Integer> members = new TreeSet<>();
        for (int number = 0; number < 31; number++) {
            if ((bits & (1 << number)) != 0) {
                members.add(number);
            }
        }
        return members;
    }

    static int bits(Collection<Integer> members) {
        int bits = 0;
        for (int number : members) {
            bits += 1 << number;
        }
        return bits;
    }

    private static void user(int user) {
        if (user < 0 || user > 7) {
            throw new IndexOutOfBoundsException();
        }
    }

    private static void permission(int permission) {
        if (permission < 0 || permission > 11) {
            throw new IndexOutOfBoundsException();
        }
    }

    private static void argument(boolean holds) {
        if (!holds) {
            throw new IllegalArgumentException();
        }
    }

    private static void state(boolean holds) {
        if (!holds) {
            throw new IllegalStateException();
        }
    }

    int grant(int user, int permission) {
        user(user);
        permission(permission);
        if (!granted.get(user).add(permission)) {
            return 0;
        }
        remembered[user][permission] = quarter;
        return 1;
    }

    int revoke(int user, int permission) {
        user(user);
        permission(permission);
        return granted.get(user).remove(permission) ? 1 : 0;
    }

    int setGrants(int user, int permissions) {
        user(user);
        argument(permissions >= 0 && permissions <= 4095);
        int changes = 0;
        for (int permission = 0; permission < 12; permission++) {
            boolean wanted = members(permissions).contains(permission);
            changes += wanted ? grant(user, permission) : revoke(user, permission);
        }
        return changes;
    }

    int setConflict(int permission, int other, boolean are) {
        permission(permission);
        permission(other);
        argument(permission != other);
        boolean before = conflict[permission][other];
        conflict[permission][other] = are;
        conflict[other][permission] = are;
        return before ? 1 : 0;
    }

    int setCosts(int role, int exception) {
        argument(role >= 0 && role <= 100 && exception >= 0 && exception <= 100);
        roleCost = role;
        exceptionCost = exception;
        return 0;
    }

    int setSupport(int holders) {
        argument(holders >= 1 && holders <= 8);
        int before = support;
        support = holders;
        return before;
    }

    int setPeriod(int quarters) {
        argument(quarters >= 1 && quarters <= 8);
        int before = period;
        period = quarters;
        return before;
    }

    int review(int user, int permission) {
        user(user);
        permission(permission);
        state(granted.get(user).contains(permission));
        int ago = quarter - remembered[user][permission];
        remembered[user][permission] = quarter;
        return ago;
    }

    int nextQuarter() {
        state(quarter != 100);
        int lapsed = 0;
        for (int user = 0; user < 8; user++) {
            Set<Integer> due = members(due(user));
            granted.get(user).removeAll(due);
            lapsed += due.size();
        }
        quarter++;
        return lapsed;
    }

    int permissions(int user) {
        user(user);
        return bits(granted.get(user));
    }

    int grants() {
        int count = 0;
        for (Set<Integer> some : granted) {
            count += some.size();
        }
        return count;
    }

    int violations(int user) {
        user(user);
        int pairs = 0;
        for (int low : granted.get(user)) {
            for (int high : granted.get(user)) {
                if (low < high && conflict[low][high]) {
                    pairs++;
                }
            }
        }
        return pairs;
    }

    int due(int user) {
        user(user);
        Set<Integer> due = new TreeSet<>();
        for (int permission : granted.get(user)) {
            if (quarter + 1 - remembered[user][permission] >= period) {
                due.add(permission);
            }
        }
        return bits(due);
    }

    boolean proper(int set) {
        for (int low : members(set)) {
            for (int high : members(set)) {
                if (conflict[low][high]) {
                    return false;
                }
            }
        }
        return true;
    }

    List<Integer> candidateList() {
        Set<Integer> shared = new TreeSet<>();
        for (int users = 0; users < 256; users++) {
            Set<Integer> common = members(4095);
            for (int user : members(users)) {
                common.retainAll(granted.get(user));
            }
            shared.add(bits(common));
        }
        List<Integer> list = new ArrayList<>();
        for (int set : shared) {
            if (set != 0 && proper(set) && members(holders(set)).size() >= support) {
                list.add(set);
            }
        }
        return list;
    }

    int candidate(int k) {
        List<Integer> list = candidateList();
        if (k < 0 || k >= list.size()) {
            throw new IndexOutOfBoundsException();
        }
        return list.get(k);
    }

    int holders(int permissions) {
        argument(permissions >= 0 && permissions <= 4095);
        Set<Integer> holders = new TreeSet<>();
        for (int user = 0; user < 8; user++) {
            if (granted.get(user).containsAll(members(permissions))) {
                holders.add(user);
            }
        }
        return bits(holders);
    }

    /** The cost of roles, or of a choice of candidates, with these sets. */
    private int costOfSets(Collection<Integer> sets) {
        int cost = sets.size() * roleCost;
        for (int user = 0; user < 8; user++) {
            int left = permissions(user);
            for (int set : sets) {
                if ((permissions(user) & set) == set) {
                    left &= ~set;
                }
            }
            cost += Integer.bitCount(left) * exceptionCost;
        }
        return cost;
    }

    private static List<Integer> chosen(List<Integer> list, int choice) {
        List<Integer> sets = new ArrayList<>();
        for (int k : members(choice)) {
            sets.add(list.get(k));
        }
        return sets;
    }

    int costOf(int choice) {
        List<Integer> list = candidateList();
        state(list.size() <= 14);
        argument(choice >= 0 && choice < 1 << list.size());
        return costOfSets(chosen(list, choice));
    }

    int leastCost() {
        List<Integer> list = candidateList();
        state(list.size() <= 14);
        return costOfSets(best(list));
    }

    private List<Integer> best(List<Integer> list) {
        List<Integer> best = new ArrayList<>();
        int least = costOfSets(best);
        for (int choice = 1; choice < 1 << list.size(); choice++) {
            List<Integer> sets = chosen(list, choice);
            int cost = costOfSets(sets);
            if (cost < least || cost == least && first(sets, best)) {
                best = sets;
                least = cost;
            }
        }
        return best;
    }

    private static boolean first(List<Integer> sets, List<Integer> others) {
        if (sets.size() != others.size()) {
            return sets.size() < others.size();
        }
        for (int at = 0; at < sets.size(); at++) {
            int difference = sets.get(at) - others.get(at);
            if (difference != 0) {
                return difference < 0;
            }
        }
        return false;
    }

    int mineBest() {
        List<Integer> list = candidateList();
        state(list.size() <= 14);
        roles = best(list);
        return costOfSets(roles);
    }

    int mineGreedily() {
        List<Integer> list = candidateList();
        Set<Integer> sets = new TreeSet<>();
        int cost = costOfSets(sets);
        for (;;) {
            int next = 0;
            int least = cost;
            for (int set : list) {
                Set<Integer> more = new TreeSet<>(sets);
                more.add(set);
                if (costOfSets(more) < least) {
                    next = set;
                    least = costOfSets(more);
                }
            }
            if (next == 0) {
                break;
            }
            sets.add(next);
            cost = least;
        }
        roles = new ArrayList<>(sets);
        return cost;
    }

    int dropRoles() {
        int before = roles.size();
        roles = new ArrayList<>();
        return before;
    }

    int role(int k) {
        if (k < 0 || k >= roles.size()) {
            throw new IndexOutOfBoundsException();
        }
        return roles.get(k);
    }

    private List<Integer> hers(int user) {
        user(user);
        List<Integer> hers = new ArrayList<>();
        for (int set : roles) {
            if (granted.get(user).containsAll(members(set))) {
                hers.add(set);
            }
        }
        return hers;
    }

    int rolesOf(int user) {
        return hers(user).size();
    }

    int byRoles(int user) {
        int by = 0;
        for (int set : hers(user)) {
            by |= set;
        }
        return by;
    }

    int exceptions(int user) {
        return permissions(user) & ~byRoles(user);
    }

    int cost() {
        return costOfSets(roles);
    }

    int isRisky(int k) {
        int set = role(k);
        for (int user = 0; user < 8; user++) {
            List<Integer> hers = hers(user);
            if (hers.remove(Integer.valueOf(set))) {
                for (int other : hers) {
                    if (!proper(set | other)) {
                        return 1;
                    }
                }
            }
        }
        return 0;
    }
}
