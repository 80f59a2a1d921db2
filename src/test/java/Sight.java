import java.util.function.IntConsumer;
import java.util.function.Supplier;

/**
 * All that can be seen of a house, as a text: what it tells now, how its risks, keys and terms stand, and what
 * it tells minute by minute. A look changes a house, so each takes a new one that is made in the same way; no
 * look makes more than 470 calls, and a house may come with some 40 behind it. But for the count of sessions
 * and keys, which have a house of their own, no look makes a call that is refused: it might do what it is
 * looked for.
 */
final class Sight {
    private static final int PEOPLE = 10;
    private static final int GROUPS = 8;
    private static final int ROLES = 6;
    private static final int APPS = 4;
    private static final int MOST_SESSIONS = 30;

    /** Past it no session, no break-glass and no kept decision of today is left that is not used. */
    private static final int LONGEST_WAIT = 61;
    private static final int LONGEST_OVERLAP = 300;
    private static final int OVERLAP_STEPS = 150;

    private final Supplier<SignOnHouse> made;
    private final StringBuilder seen = new StringBuilder();
    private final boolean[] barred = new boolean[PEOPLE];
    private final int sessions;
    private final int keys;
    private SignOnHouse house;

    private Sight(Supplier<SignOnHouse> made) {
        this.made = made;
        SignOnHouse counted = made.get();
        sessions = countUntilThrown(counted::goesOn);
        keys = countUntilThrown(counted::isTaken);
    }

    static String of(Supplier<SignOnHouse> made) {
        Sight sight = new Sight(made);
        sight.lookAtAllOfNow();
        sight.lookWhoIsBarred();
        for (int risk = 1; risk <= 3; risk++) {
            sight.lookAtRisks(risk);
        }
        sight.lookAtSigning();
        sight.lookAtOverlap(0);
        sight.lookAtOverlap(OVERLAP_STEPS);
        for (int minutes = 1; minutes <= LONGEST_WAIT; minutes++) {
            sight.lookLater(minutes);
        }
        return sight.seen.toString();
    }

    private static int countUntilThrown(IntConsumer call) {
        for (int count = 0; count < 512; count++) {
            int number = count;
            if (!Due.nameOfThrown(() -> call.accept(number)).equals(Due.NOTHING)) {
                return count;
            }
        }
        return 512;
    }

    private void lookAtAllOfNow() {
        house = made.get();
        seen.append("now ").append(house.now());
        lookAtPeople();
        lookAtSessions();
        lookAtKeys();
        lookAtApps();
        for (int app = 0; app < APPS; app++) {
            seen.append(" cache ").append(house.setCache(app, 1));
        }
        closeSessions();
        takeGroupsApart();
    }

    private void lookWhoIsBarred() {
        house = made.get();
        for (int group = 0; group < GROUPS; group++) {
            house.setRole(group, 0, group == 0 ? 1 : 0);
        }
        for (int person = 0; person < PEOPLE; person++) {
            house.setPerson(0, person, true);
            barred[person] = !house.allows(person, 0);
            seen.append(barred[person] ? " barred" : " free");
        }
    }

    /** A risk that is smaller than this one tells itself by the sessions that end. */
    private void lookAtRisks(int risk) {
        house = made.get();
        int opened = sessions;
        for (int person = 0; person < PEOPLE; person++) {
            if (!barred[person] && opened < MOST_SESSIONS) {
                opened++;
                seen.append(" o").append(house.open(person));
            }
            seen.append(" r").append(house.setRisk(person, risk));
        }
    }

    /** With which key a session is signed is told by the change of keys that ends it. */
    private void lookAtSigning() {
        house = made.get();
        lookAtSessions();
        for (int minutes : new int[] {300, 300, 0}) {
            seen.append(" change ").append(house.changeKeys(minutes));
            lookAtSessions();
        }
    }

    private void lookAtOverlap(int first) {
        house = made.get();
        if (first > 0) {
            seen.append(" wait ").append(house.pass(first));
        }
        for (int minute = first + 1; minute <= LONGEST_OVERLAP && minute <= first + OVERLAP_STEPS; minute++) {
            seen.append(' ').append(house.pass(1)).append(keys > 1 && house.isTaken(keys - 2) ? 't' : '-');
        }
    }

    private void lookLater(int minutes) {
        house = made.get();
        seen.append(" at ").append(minutes).append(' ').append(house.pass(minutes));
        lookAtSessions();
        lookAtKeys();
        for (int person = 0; person < PEOPLE; person++) {
            lookAtRoles(person);
        }
        lookAtApps();
    }

    private void lookAtPeople() {
        for (int person = 0; person < PEOPLE; person++) {
            seen.append(" p");
            for (int group = 0; group < GROUPS; group++) {
                seen.append(house.isIn(group, person) ? '1' : '0');
            }
            lookAtRoles(person);
        }
    }

    private void lookAtRoles(int person) {
        for (int role = 0; role < ROLES; role++) {
            seen.append(house.allows(person, role) ? 'y' : 'n');
        }
    }

    private void lookAtSessions() {
        seen.append(" s");
        for (int session = 0; session < sessions; session++) {
            seen.append(house.goesOn(session) ? '1' : '0');
        }
    }

    private void lookAtKeys() {
        seen.append(" k");
        for (int key = 0; key < keys; key++) {
            seen.append(house.isTaken(key) ? '1' : '0');
        }
    }

    private void lookAtApps() {
        for (int app = 0; app < APPS; app++) {
            seen.append(" a").append(house.stale(app)).append(' ');
            for (int person = 0; person < PEOPLE; person++) {
                seen.append(house.forget(app, person));
            }
        }
    }

    private void closeSessions() {
        for (int session = 0; session < sessions; session++) {
            seen.append(" c").append(house.goesOn(session) ? house.close(session) : -1);
        }
    }

    private void takeGroupsApart() {
        for (int group = 0; group < GROUPS; group++) {
            seen.append(" g");
            for (int person = 0; person < PEOPLE; person++) {
                seen.append(house.setPerson(group, person, false) ? '1' : '0');
            }
            for (int inner = 0; inner < GROUPS; inner++) {
                seen.append(inner != group && house.setGroup(group, inner, false) ? 'i' : '-');
            }
            for (int role = 0; role < ROLES; role++) {
                seen.append(house.setRole(group, role, 0));
            }
        }
    }
}
