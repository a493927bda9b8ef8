/** States of an object in which calls are tried that are to change nothing. */
enum State {
    NEW {
        RoleMiner make() {
            return new RoleMiner();
        }
    },
    /** All is set that can be; the roles that are laid are not those that mining would lay now. */
    USED {
        RoleMiner make() {
            RoleMiner x = new RoleMiner();
            x.setGrants(0, 3);
            x.setGrants(1, 12);
            x.setGrants(7, 15);
            x.mineBest();
            x.nextQuarter();
            x.setGrants(2, 2049);
            x.setGrants(1, 28);
            x.nextQuarter();
            x.review(0, 1);
            x.setGrants(3, 2048);
            set(x);
            x.setSupport(2);
            return x;
        }
    },
    /** Grants of each age that is possible, of which some are due. */
    LAST_QUARTER {
        RoleMiner make() {
            RoleMiner x = new RoleMiner();
            x.setPeriod(8);
            for (int quarter = 1; quarter <= 100; quarter++) {
                x.nextQuarter();
                if (quarter > 92) {
                    x.grant(quarter - 93, 0);
                    x.grant(7, quarter - 93);
                }
            }
            x.mineGreedily();
            set(x);
            return x;
        }
    },
    /** Fifteen candidates, and more roles than mining would lay now. */
    FIFTEEN {
        RoleMiner make() {
            RoleMiner x = Made.fifteenCandidates();
            x.setCosts(1, 2);
            x.mineGreedily();
            x.nextQuarter();
            set(x);
            return x;
        }
    };

    abstract RoleMiner make();

    private static void set(RoleMiner x) {
        x.setConflict(0, 4, true);
        x.setConflict(10, 11, true);
        x.setCosts(7, 3);
        x.setPeriod(5);
    }
}
