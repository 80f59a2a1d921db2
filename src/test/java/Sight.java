/**
 * All that some 440 calls tell of a house, as a text. The later ones of them change it: a house that was
 * looked at is used up, and one with more than 70 calls behind it comes to the end of its 512.
 */
final class Sight {
    private static final int PEOPLE = 10;
    private static final int GROUPS = 8;
    private static final int ROLES = 6;
    private static final int APPS = 4;

    private final SignOnHouse house;
    private final StringBuilder seen = new StringBuilder();
    private int sessions;

    private Sight(SignOnHouse house) {
        this.house = house;
    }

    static String of(SignOnHouse house) {
        Sight sight = new Sight(house);
        sight.lookAtPeople();
        sight.lookAtSessions();
        sight.lookAtKeys();
        sight.lookAtApps();
        sight.closeSessions();
        sight.takeGroupsApart();
        return sight.seen.toString();
    }

    private void lookAtPeople() {
        seen.append(house.now());
        for (int person = 0; person < PEOPLE; person++) {
            seen.append(" p");
            for (int group = 0; group < GROUPS; group++) {
                seen.append(house.isIn(group, person) ? '1' : '0');
            }
            for (int role = 0; role < ROLES; role++) {
                seen.append(house.allows(person, role) ? 'y' : 'n');
            }
        }
    }

    private void lookAtSessions() {
        seen.append(" s");
        String thrown = Due.NOTHING;
        for (sessions = 0; thrown.equals(Due.NOTHING); sessions++) {
            int session = sessions;
            thrown = Due.nameOfThrown(() -> seen.append(house.goesOn(session) ? '1' : '0'));
        }
        sessions--;
    }

    private void lookAtKeys() {
        seen.append(" k");
        String thrown = Due.NOTHING;
        for (int number = 0; thrown.equals(Due.NOTHING); number++) {
            int key = number;
            thrown = Due.nameOfThrown(() -> seen.append(house.isTaken(key) ? '1' : '0'));
        }
    }

    private void lookAtApps() {
        for (int app = 0; app < APPS; app++) {
            seen.append(" a").append(house.stale(app)).append(' ');
            for (int person = 0; person < PEOPLE; person++) {
                seen.append(house.forget(app, person));
            }
            seen.append(' ').append(house.setCache(app, 1));
        }
    }

    private void closeSessions() {
        for (int number = 0; number < sessions; number++) {
            int session = number;
            seen.append(" c").append(Due.nameOfThrown(() -> seen.append(' ').append(house.close(session))));
        }
    }

    private void takeGroupsApart() {
        for (int group = 0; group < GROUPS; group++) {
            seen.append(" g");
            for (int person = 0; person < PEOPLE; person++) {
                seen.append(house.setPerson(group, person, false) ? '1' : '0');
            }
            for (int inner = 0; inner < GROUPS; inner++) {
                seen.append(inner != group && house.setGroup(group, inner, false) ? 'i' : '-');
            }
            for (int role = 0; role < ROLES; role++) {
                seen.append(house.setRole(group, role, 0));
            }
        }
    }
}
