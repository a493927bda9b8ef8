import java.util.Random;

/** Runs of calls, drawn from fixed seeds, on an object and on the plain model: all answers are alike. */
public final class ModelTest {
    private static final int RUNS = 600;
    private static final int MODEL_RUNS_WITH_MANY_CANDIDATES = 12;
    private static final int CALLS = 512;
    private static final int KINDS = 29;
    private static final int CHANGING_KINDS = 12;

    private static final Checks checks = new Checks();

    /** How the calls of a run are drawn. */
    private final Random random;
    private final int users;
    private final int permissions;
    private final int nextQuarters;
    private final int mines;
    private final RoleMiner miner = new RoleMiner();
    private final PlainModel model = new PlainModel();

    private int a;
    private int b;
    private boolean flag;

    private ModelTest(long seed, boolean many) {
        random = new Random(seed);
        users = many ? 8 : 1 + random.nextInt(8);
        permissions = many ? 12 : 1 + random.nextInt(12);
        nextQuarters = random.nextInt(10) == 0 ? 3 : random.nextInt(2);
        mines = many ? 40 : 6;
    }

    public static void main(String[] args) {
        for (int run = 0; run < RUNS; run++) {
            new ModelTest(run, false).calls("run " + run);
        }
        for (int run = 0; run < MODEL_RUNS_WITH_MANY_CANDIDATES; run++) {
            new ModelTest(1000 + run, true).calls("run with many candidates " + run);
        }
        checks.end();
    }

    private void calls(String run) {
        for (int call = 0; call < CALLS; call++) {
            int kind = kind();
            arguments(kind);
            String due = answer(kind, false);
            String got = answer(kind, true);
            if (!got.equals(due)) {
                String text = run + ", call " + call + ": kind " + kind + " (" + a + ", " + b + ", " + flag + ")";
                checks.same(text + ": " + got + " for " + due, 1, 0);
                return;
            }
        }
    }

    private int kind() {
        int kind = random.nextInt(2) == 0 ? random.nextInt(CHANGING_KINDS) : random.nextInt(KINDS);
        if (kind == 8 && random.nextInt(4) > nextQuarters || isDear(kind) && random.nextInt(mines) != 0) {
            return 2;
        }
        return kind;
    }

    private static boolean isDear(int kind) {
        return kind == 9 || kind == 10 || kind == 22;
    }

    private void arguments(int kind) {
        a = number(kind, 0);
        b = number(kind, 1);
        flag = random.nextInt(3) == 0;
    }

    private int number(int kind, int place) {
        if (random.nextInt(40) == 0) {
            int[] wrong = {-1, 8, 12, 14, 255, 4096, Integer.MIN_VALUE, Integer.MAX_VALUE, 1 << 14};
            return wrong[random.nextInt(wrong.length)];
        }
        switch (kind) {
            case 0: case 1: case 7:
                return random.nextInt(place == 0 ? users : permissions);
            case 2:
                return place == 0 ? random.nextInt(users) : set();
            case 3:
                return random.nextInt(permissions);
            case 4:
                return random.nextInt(3) == 0 ? random.nextInt(101) : random.nextInt(8);
            case 5:
                return 1 + random.nextInt(random.nextInt(3) == 0 ? 8 : 2);
            case 6:
                return 1 + random.nextInt(8);
            case 20:
                return set();
            case 21:
                return random.nextInt(1 << random.nextInt(15));
            case 24: case 28: case 19:
                return random.nextInt(5);
            default:
                return random.nextInt(users);
        }
    }

    private int set() {
        int set = random.nextInt(1 << permissions);
        int kind = random.nextInt(4);
        return kind == 0 ? set & random.nextInt(1 << permissions) : kind == 1 ? set | random.nextInt(1 << permissions) : set;
    }

    private String answer(int kind, boolean isMiner) {
        try {
            return String.valueOf(isMiner ? ofMiner(kind) : ofModel(kind));
        } catch (RuntimeException thrown) {
            return thrown.getClass().getName();
        }
    }

    private int ofMiner(int kind) {
        switch (kind) {
            case 0: return miner.grant(a, b) ? 1 : 0;
            case 1: return miner.revoke(a, b) ? 1 : 0;
            case 2: return miner.setGrants(a, b);
            case 3: return miner.setConflict(a, b, flag) ? 1 : 0;
            case 4: miner.setCosts(a, b); return 0;
            case 5: return miner.setSupport(a);
            case 6: return miner.setPeriod(a);
            case 7: return miner.review(a, b);
            case 8: return miner.nextQuarter();
            case 9: return miner.mineGreedily();
            case 10: return miner.mineBest();
            case 11: return flag ? miner.dropRoles() : miner.cost();
            case 12: return miner.roles();
            case 13: return miner.permissions(a);
            case 14: return miner.grants();
            case 15: return miner.violations(a);
            case 16: return miner.quarter();
            case 17: return miner.due(a);
            case 18: return miner.candidates();
            case 19: return miner.candidate(a);
            case 20: return miner.holders(a);
            case 21: return miner.costOf(a);
            case 22: return miner.leastCost();
            case 23: return miner.cost();
            case 24: return miner.role(a);
            case 25: return miner.rolesOf(a);
            case 26: return miner.byRoles(a);
            case 27: return miner.exceptions(a);
            default: return miner.isRisky(a) ? 1 : 0;
        }
    }

    private int ofModel(int kind) {
        switch (kind) {
            case 0: return model.grant(a, b);
            case 1: return model.revoke(a, b);
            case 2: return model.setGrants(a, b);
            case 3: return model.setConflict(a, b, flag);
            case 4: return model.setCosts(a, b);
            case 5: return model.setSupport(a);
            case 6: return model.setPeriod(a);
            case 7: return model.review(a, b);
            case 8: return model.nextQuarter();
            case 9: return model.mineGreedily();
            case 10: return model.mineBest();
            case 11: return flag ? model.dropRoles() : model.cost();
            case 12: return model.roles.size();
            case 13: return model.permissions(a);
            case 14: return model.grants();
            case 15: return model.violations(a);
            case 16: return model.quarter;
            case 17: return model.due(a);
            case 18: return model.candidateList().size();
            case 19: return model.candidate(a);
            case 20: return model.holders(a);
            case 21: return model.costOf(a);
            case 22: return model.leastCost();
            case 23: return model.cost();
            case 24: return model.role(a);
            case 25: return model.rolesOf(a);
            case 26: return model.byRoles(a);
            case 27: return model.exceptions(a);
            default: return model.isRisky(a);
        }
    }
}
