/** Promises 16 to 19: setCache, decide, forget, stale. */
public final class AppsTest {
    private static final int LET_IN = SignOnHouse.LET_IN;
    private static final int REFUSED = SignOnHouse.REFUSED;
    private static final int NO_SESSION = SignOnHouse.NO_SESSION;

    public static void main(String[] args) {
        setCache();
        setCacheSmaller();
        setCacheLarger();
        setCacheToNothing();
        decide();
        decideByPersonAndRole();
        decideKeepsFromTheAskingOn();
        decideUsesTheSession();
        decideWithoutSession();
        forget();
        stale();
        staleOfTheBarredAndOfGlass();
        Due.end();
    }

    /** Person 0 has role 0 by group 0; sessions 0 and 1 are theirs, 2 is of person 1, 3 is closed. */
    private static SignOnHouse staffed() {
        SignOnHouse house = new SignOnHouse();
        house.setPerson(0, 0, true);
        house.setRole(0, 0, 1);
        house.open(0);
        house.open(0);
        house.open(1);
        house.open(1);
        house.close(3);
        return house;
    }

    private static void setCache() {
        SignOnHouse house = new SignOnHouse();
        for (int app = 0; app < 4; app++) {
            Due.is("16: 10 at first", house.setCache(app, app), 10);
        }
        for (int app = 0; app < 4; app++) {
            Due.is("16: each has its own", house.setCache(app, 60), app);
            Due.is("16: the longest", house.setCache(app, 60), 60);
            Due.is("16: to the shortest", house.setCache(app, 0), 60);
            Due.is("16: the shortest", house.setCache(app, 10), 0);
        }
    }

    private static void setCacheSmaller() {
        SignOnHouse house = staffed();
        house.setCache(0, 60);
        house.decide(0, 0, 0);
        house.pass(5);
        house.decide(0, 0, 1);
        house.decide(1, 0, 0);
        house.setRole(0, 0, 2);
        house.setRole(0, 1, 1);
        Due.is("16: both are kept", house.stale(0), 2);
        house.setCache(0, 6);
        Due.is("16: kept for 5 of 6 minutes", house.stale(0), 2);
        house.setCache(0, 5);
        Due.is("16: kept for 5 of 5 minutes", house.stale(0), 1);
        Due.is("16: another app's is not touched", house.stale(1), 1);
        house.setCache(0, 60);
        Due.is("16: what is gone stays gone", house.stale(0), 1);
        Due.is("16: and is decided anew", house.decide(0, 0, 0), REFUSED);
        Due.is("16: the other stands", house.decide(0, 0, 1), REFUSED);
    }

    private static void setCacheLarger() {
        SignOnHouse house = staffed();
        house.decide(0, 0, 0);
        house.pass(9);
        house.setRole(0, 0, 0);
        house.setCache(0, 20);
        house.pass(10);
        Due.is("16: kept for the longer time", house.decide(0, 0, 0), LET_IN);
        house.pass(1);
        Due.is("16: until that has passed", house.decide(0, 0, 0), REFUSED);
        house.setRole(0, 0, 1);
        house.pass(20);
        house.setCache(0, 60);
        Due.is("16: too late for what is gone", house.forget(0, 0), 0);
        Due.is("16: so it is decided anew", house.decide(0, 0, 0), LET_IN);
    }

    private static void setCacheToNothing() {
        SignOnHouse house = staffed();
        house.decide(0, 0, 0);
        house.setCache(0, 0);
        Due.is("16: gone with 0", house.forget(0, 0), 0);
        Due.is("17: decided", house.decide(0, 0, 0), LET_IN);
        house.setRole(0, 0, 0);
        Due.is("17: nothing is kept", house.decide(0, 0, 0), REFUSED);
        house.setRole(0, 0, 1);
        Due.is("19: nothing is stale", house.stale(0), 0);
        house.setCache(0, 60);
        Due.is("16: nothing comes back", house.forget(0, 0), 0);
        Due.is("17: decided anew", house.decide(0, 0, 0), LET_IN);
        house.setCache(0, 1);
        house.setRole(0, 0, 0);
        Due.is("17: kept for a minute", house.decide(0, 0, 0), LET_IN);
        house.pass(1);
        Due.is("17: and not any more", house.decide(0, 0, 0), REFUSED);
    }

    private static void decide() {
        SignOnHouse house = staffed();
        Due.is("17: allowed", house.decide(0, 0, 0), LET_IN);
        Due.is("17: not allowed", house.decide(0, 0, 1), REFUSED);
        Due.is("17: another person", house.decide(0, 2, 0), REFUSED);
        house.setRole(0, 0, 2);
        house.setRole(0, 1, 1);
        house.pass(9);
        Due.is("17: let in by what it keeps", house.decide(0, 0, 0), LET_IN);
        Due.is("17: refused by what it keeps", house.decide(0, 0, 1), REFUSED);
        Due.is("17: an app that keeps nothing", house.decide(1, 0, 0), REFUSED);
        Due.is("17: of the other role", house.decide(1, 0, 1), LET_IN);
        house.pass(1);
        Due.is("17: when 10 have passed it is gone", house.decide(0, 0, 0), REFUSED);
        Due.is("17: so is the other", house.decide(0, 0, 1), LET_IN);
        house.setRole(0, 0, 1);
        Due.is("17: the new one is kept", house.decide(0, 0, 0), REFUSED);
        Due.is("17: the last app and role", house.decide(3, 0, 5), REFUSED);
    }

    private static void decideByPersonAndRole() {
        SignOnHouse house = staffed();
        house.decide(0, 0, 0);
        house.setRole(0, 0, 0);
        Due.is("17: another session of the person", house.decide(0, 1, 0), LET_IN);
        Due.is("17: another role", house.decide(0, 1, 1), REFUSED);
        house.close(0);
        house.close(1);
        Due.is("17: a session that is opened later", house.open(0), 4);
        Due.is("17: decides by what is kept", house.decide(0, 4, 0), LET_IN);
    }

    private static void decideKeepsFromTheAskingOn() {
        SignOnHouse house = staffed();
        house.decide(0, 0, 0);
        house.setRole(0, 0, 0);
        for (int minute = 1; minute < 10; minute++) {
            house.pass(1);
            Due.is("17: deciding by it keeps it no longer", house.decide(0, 0, 0), LET_IN);
        }
        house.pass(1);
        Due.is("17: the 10th minute", house.decide(0, 0, 0), REFUSED);
        house.pass(5);
        house.setRole(0, 0, 1);
        Due.is("17: kept anew", house.decide(0, 0, 0), REFUSED);
        house.pass(5);
        Due.is("17: ten minutes from the asking", house.decide(0, 0, 0), LET_IN);
    }

    private static void decideUsesTheSession() {
        SignOnHouse house = staffed();
        house.setCache(0, 60);
        house.decide(0, 0, 0);
        house.pass(29);
        Due.is("17: by what is kept it is used too", house.decide(0, 0, 0), LET_IN);
        Due.is("17: the others are idle", house.pass(1), 2);
        Due.is("17: this one goes on", house.goesOn(0), true);
        house.pass(28);
        Due.is("17: a refusal is a use", house.decide(0, 0, 5), REFUSED);
        house.pass(29);
        Due.is("17: so it goes on", house.goesOn(0), true);
        Due.same("17: a wrong role", Due.nameOfThrown(() -> house.decide(0, 0, 6)), Due.ARGUMENT);
        Due.is("17: is no use", house.pass(1), 1);
    }

    private static void decideWithoutSession() {
        SignOnHouse house = staffed();
        house.decide(0, 2, 0);
        Due.is("17: closed, though a decision is kept", house.decide(0, 3, 0), NO_SESSION);
        Due.is("17: closed", house.decide(1, 3, 0), NO_SESSION);
        Due.is("17: nothing is kept by that", house.forget(1, 1), 0);
        house.setRisk(0, 1);
        Due.is("17: cut by a risk", house.decide(1, 0, 0), NO_SESSION);
        Due.is("17: nothing is kept by that", house.forget(1, 0), 0);
        house.pass(30);
        Due.is("17: idle", house.decide(1, 2, 0), NO_SESSION);
        house.open(0);
        house.changeKeys(0);
        Due.is("17: without its key", house.decide(1, 4, 0), NO_SESSION);
        house.open(0);
        Due.is("17: one that goes on", house.decide(1, 5, 0), LET_IN);
    }

    private static void forget() {
        SignOnHouse house = staffed();
        for (int role = 0; role < 6; role++) {
            house.decide(0, 0, role);
        }
        house.decide(0, 2, 0);
        house.decide(1, 0, 0);
        house.setRole(0, 0, 0);
        Due.is("18: all of the person", house.forget(0, 0), 6);
        Due.is("18: none is left", house.forget(0, 0), 0);
        Due.is("18: decided anew", house.decide(0, 0, 0), REFUSED);
        Due.is("18: another app keeps its own", house.decide(1, 0, 0), LET_IN);
        Due.is("18: another person's was kept", house.forget(0, 1), 1);
        Due.is("18: a person without decisions", house.forget(3, 9), 0);
        house.pass(9);
        Due.is("18: after 9 minutes one is kept", house.forget(1, 0), 1);
        house.pass(1);
        Due.is("18: after 10 none is", house.forget(0, 0), 0);
    }

    private static void stale() {
        SignOnHouse house = staffed();
        house.decide(0, 0, 0);
        house.decide(0, 0, 1);
        house.decide(0, 2, 0);
        house.decide(1, 0, 0);
        Due.is("19: none", house.stale(0), 0);
        house.setRole(0, 0, 0);
        Due.is("19: let in, would be refused", house.stale(0), 1);
        Due.is("19: of each app", house.stale(1), 1);
        Due.is("19: of an app that keeps none", house.stale(2), 0);
        house.setRole(0, 1, 1);
        Due.is("19: refused, would be let in", house.stale(0), 2);
        house.setRole(0, 2, 1);
        Due.is("19: what is not kept is not stale", house.stale(0), 2);
        Due.is("19: counting changes nothing", house.stale(0), 2);
        house.setPerson(0, 1, true);
        Due.is("19: the other person has nothing for the role 0", house.stale(0), 2);
        house.setRole(0, 0, 1);
        Due.is("19: as the house says again, and the other not", house.stale(0), 2);
        house.close(0);
        house.close(1);
        Due.is("19: without a session too", house.stale(0), 2);
        house.pass(9);
        Due.is("19: after 9 minutes", house.stale(0), 2);
        house.pass(1);
        Due.is("19: gone after 10", house.stale(0), 0);
    }

    private static void staleOfTheBarredAndOfGlass() {
        SignOnHouse house = staffed();
        house.decide(0, 0, 0);
        house.decide(0, 2, 0);
        house.setRisk(0, 3);
        Due.is("19: barred", house.stale(0), 1);
        house.setRisk(0, 0);
        Due.is("19: not barred", house.stale(0), 0);
        house.setPerson(0, 5, true);
        house.breakGlass(1, 0, 0, 5);
        Due.is("19: by a break-glass", house.stale(0), 1);
        house.forget(0, 1);
        house.setCache(0, 60);
        house.pass(20);
        Due.is("17: by a break-glass", house.decide(0, 2, 0), LET_IN);
        house.pass(39);
        Due.is("19: while it holds", house.stale(0), 0);
        house.pass(1);
        Due.is("19: when it has ended", house.stale(0), 1);
    }
}
